section
-- ===== PART A: goes FIRST, ahead of the names: the tables' words, and 'selects' of the private methods out of them =====
/-- a private method of a class that the tables say can be made, by its rows of tables_1 -/
def lw_okq (q : MethodName × Nat) : Prop := (q.1.cls ≠ "java/lang/invoke/MethodHandle" ∧ q.1.cls ≠ "java/lang/invoke/VarHandle") ∧ Cond.instantiable q.1.cls q.2 ∈ tables_1 ∧ Cond.privateMethod q.1 ∈ tables_1 ∧ Cond.instanceMethod q.1 ∈ tables_1
theorem lw_p0 : lw_okq (⟨"ConfinementAnalyzer$Text", "advance", "()V"⟩, 6) := ⟨⟨by decide +kernel, by decide +kernel⟩, List.mem_of_getElem? (i := 26) (by decide +kernel), List.mem_of_getElem? (i := 301) (by decide +kernel), List.mem_of_getElem? (i := 302) (by decide +kernel)⟩
theorem lw_p1 : lw_okq (⟨"ConfinementAnalyzer$Text", "readStatement", "(LConfinementAnalyzer$State;)Z"⟩, 6) := ⟨⟨by decide +kernel, by decide +kernel⟩, List.mem_of_getElem? (i := 26) (by decide +kernel), List.mem_of_getElem? (i := 308) (by decide +kernel), List.mem_of_getElem? (i := 309) (by decide +kernel)⟩
theorem lw_p2 : lw_okq (⟨"ConfinementAnalyzer$Text", "findStatement", "()I"⟩, 6) := ⟨⟨by decide +kernel, by decide +kernel⟩, List.mem_of_getElem? (i := 26) (by decide +kernel), List.mem_of_getElem? (i := 312) (by decide +kernel), List.mem_of_getElem? (i := 313) (by decide +kernel)⟩
theorem lw_p3 : lw_okq (⟨"ConfinementAnalyzer$Text", "tokenIs", "(Ljava/lang/String;)Z"⟩, 6) := ⟨⟨by decide +kernel, by decide +kernel⟩, List.mem_of_getElem? (i := 26) (by decide +kernel), List.mem_of_getElem? (i := 317) (by decide +kernel), List.mem_of_getElem? (i := 318) (by decide +kernel)⟩
theorem lw_p4 : lw_okq (⟨"ConfinementAnalyzer$Text", "isFull", "(LConfinementAnalyzer$State;I)Z"⟩, 6) := ⟨⟨by decide +kernel, by decide +kernel⟩, List.mem_of_getElem? (i := 26) (by decide +kernel), List.mem_of_getElem? (i := 373) (by decide +kernel), List.mem_of_getElem? (i := 374) (by decide +kernel)⟩
theorem lw_p5 : lw_okq (⟨"ConfinementAnalyzer$Text", "numberValue", "()I"⟩, 6) := ⟨⟨by decide +kernel, by decide +kernel⟩, List.mem_of_getElem? (i := 26) (by decide +kernel), List.mem_of_getElem? (i := 377) (by decide +kernel), List.mem_of_getElem? (i := 378) (by decide +kernel)⟩
theorem lw_p6 : lw_okq (⟨"ConfinementAnalyzer$Text", "accepts", "(LConfinementAnalyzer$State;III)Z"⟩, 6) := ⟨⟨by decide +kernel, by decide +kernel⟩, List.mem_of_getElem? (i := 26) (by decide +kernel), List.mem_of_getElem? (i := 381) (by decide +kernel), List.mem_of_getElem? (i := 382) (by decide +kernel)⟩
theorem lw_p7 : lw_okq (⟨"ConfinementAnalyzer$Text", "perform", "(LConfinementAnalyzer$State;I)V"⟩, 6) := ⟨⟨by decide +kernel, by decide +kernel⟩, List.mem_of_getElem? (i := 26) (by decide +kernel), List.mem_of_getElem? (i := 402) (by decide +kernel), List.mem_of_getElem? (i := 403) (by decide +kernel)⟩
theorem lw_p8 : lw_okq (⟨"ConfinementAnalyzer", "saveState", "()V"⟩, 9) := ⟨⟨by decide +kernel, by decide +kernel⟩, List.mem_of_getElem? (i := 18) (by decide +kernel), List.mem_of_getElem? (i := 414) (by decide +kernel), List.mem_of_getElem? (i := 415) (by decide +kernel)⟩
theorem lw_p9 : lw_okq (⟨"ConfinementAnalyzer", "refreshAnalysis", "()V"⟩, 9) := ⟨⟨by decide +kernel, by decide +kernel⟩, List.mem_of_getElem? (i := 18) (by decide +kernel), List.mem_of_getElem? (i := 497) (by decide +kernel), List.mem_of_getElem? (i := 498) (by decide +kernel)⟩
theorem lw_p10 : lw_okq (⟨"ConfinementAnalyzer$Roles", "readObject", "(LConfinementAnalyzer$State;I)V"⟩, 12) := ⟨⟨by decide +kernel, by decide +kernel⟩, List.mem_of_getElem? (i := 130) (by decide +kernel), List.mem_of_getElem? (i := 515) (by decide +kernel), List.mem_of_getElem? (i := 516) (by decide +kernel)⟩
theorem lw_p11 : lw_okq (⟨"ConfinementAnalyzer$Analysis", "findInitial", "(I)V"⟩, 11) := ⟨⟨by decide +kernel, by decide +kernel⟩, List.mem_of_getElem? (i := 191) (by decide +kernel), List.mem_of_getElem? (i := 535) (by decide +kernel), List.mem_of_getElem? (i := 536) (by decide +kernel)⟩
theorem lw_p12 : lw_okq (⟨"ConfinementAnalyzer$Analysis", "findRound", "(LConfinementAnalyzer$Roles;I)Z"⟩, 11) := ⟨⟨by decide +kernel, by decide +kernel⟩, List.mem_of_getElem? (i := 191) (by decide +kernel), List.mem_of_getElem? (i := 544) (by decide +kernel), List.mem_of_getElem? (i := 545) (by decide +kernel)⟩
theorem lw_p13 : lw_okq (⟨"ConfinementAnalyzer$Analysis", "findGift", "(LConfinementAnalyzer$Roles;II)Z"⟩, 11) := ⟨⟨by decide +kernel, by decide +kernel⟩, List.mem_of_getElem? (i := 191) (by decide +kernel), List.mem_of_getElem? (i := 548) (by decide +kernel), List.mem_of_getElem? (i := 549) (by decide +kernel)⟩
theorem lw_p14 : lw_okq (⟨"ConfinementAnalyzer$Analysis", "setCause", "(IIIII)V"⟩, 11) := ⟨⟨by decide +kernel, by decide +kernel⟩, List.mem_of_getElem? (i := 191) (by decide +kernel), List.mem_of_getElem? (i := 556) (by decide +kernel), List.mem_of_getElem? (i := 557) (by decide +kernel)⟩
theorem lw_p15 : lw_okq (⟨"ConfinementAnalyzer$Analysis", "findTaking", "(LConfinementAnalyzer$Roles;II)Z"⟩, 11) := ⟨⟨by decide +kernel, by decide +kernel⟩, List.mem_of_getElem? (i := 191) (by decide +kernel), List.mem_of_getElem? (i := 560) (by decide +kernel), List.mem_of_getElem? (i := 561) (by decide +kernel)⟩
def lw_privs_1 : List (MethodName × Nat) := [(⟨"ConfinementAnalyzer$Text", "advance", "()V"⟩, 6), (⟨"ConfinementAnalyzer$Text", "readStatement", "(LConfinementAnalyzer$State;)Z"⟩, 6), (⟨"ConfinementAnalyzer$Text", "findStatement", "()I"⟩, 6), (⟨"ConfinementAnalyzer$Text", "tokenIs", "(Ljava/lang/String;)Z"⟩, 6), (⟨"ConfinementAnalyzer$Text", "isFull", "(LConfinementAnalyzer$State;I)Z"⟩, 6), (⟨"ConfinementAnalyzer$Text", "numberValue", "()I"⟩, 6), (⟨"ConfinementAnalyzer$Text", "accepts", "(LConfinementAnalyzer$State;III)Z"⟩, 6), (⟨"ConfinementAnalyzer$Text", "perform", "(LConfinementAnalyzer$State;I)V"⟩, 6), (⟨"ConfinementAnalyzer", "saveState", "()V"⟩, 9), (⟨"ConfinementAnalyzer", "refreshAnalysis", "()V"⟩, 9), (⟨"ConfinementAnalyzer$Roles", "readObject", "(LConfinementAnalyzer$State;I)V"⟩, 12), (⟨"ConfinementAnalyzer$Analysis", "findInitial", "(I)V"⟩, 11), (⟨"ConfinementAnalyzer$Analysis", "findRound", "(LConfinementAnalyzer$Roles;I)Z"⟩, 11), (⟨"ConfinementAnalyzer$Analysis", "findGift", "(LConfinementAnalyzer$Roles;II)Z"⟩, 11), (⟨"ConfinementAnalyzer$Analysis", "setCause", "(IIIII)V"⟩, 11), (⟨"ConfinementAnalyzer$Analysis", "findTaking", "(LConfinementAnalyzer$Roles;II)Z"⟩, 11)]
theorem lw_r1 : ∀ q ∈ lw_privs_1, lw_okq q := List.forall_mem_cons.mpr ⟨lw_p0, List.forall_mem_cons.mpr ⟨lw_p1, List.forall_mem_cons.mpr ⟨lw_p2, List.forall_mem_cons.mpr ⟨lw_p3, List.forall_mem_cons.mpr ⟨lw_p4, List.forall_mem_cons.mpr ⟨lw_p5, List.forall_mem_cons.mpr ⟨lw_p6, List.forall_mem_cons.mpr ⟨lw_p7, List.forall_mem_cons.mpr ⟨lw_p8, List.forall_mem_cons.mpr ⟨lw_p9, List.forall_mem_cons.mpr ⟨lw_p10, List.forall_mem_cons.mpr ⟨lw_p11, List.forall_mem_cons.mpr ⟨lw_p12, List.forall_mem_cons.mpr ⟨lw_p13, List.forall_mem_cons.mpr ⟨lw_p14, List.forall_mem_cons.mpr ⟨lw_p15, fun _ h => absurd h List.not_mem_nil⟩⟩⟩⟩⟩⟩⟩⟩⟩⟩⟩⟩⟩⟩⟩⟩
theorem lw_p16 : lw_okq (⟨"ConfinementAnalyzer$Analysis", "findOpenBox", "(LConfinementAnalyzer$Roles;II)I"⟩, 11) := ⟨⟨by decide +kernel, by decide +kernel⟩, List.mem_of_getElem? (i := 191) (by decide +kernel), List.mem_of_getElem? (i := 564) (by decide +kernel), List.mem_of_getElem? (i := 565) (by decide +kernel)⟩
theorem lw_p17 : lw_okq (⟨"ConfinementAnalyzer$Analysis", "findEndowment", "(LConfinementAnalyzer$Roles;II)Z"⟩, 11) := ⟨⟨by decide +kernel, by decide +kernel⟩, List.mem_of_getElem? (i := 191) (by decide +kernel), List.mem_of_getElem? (i := 568) (by decide +kernel), List.mem_of_getElem? (i := 569) (by decide +kernel)⟩
theorem lw_p18 : lw_okq (⟨"ConfinementAnalyzer$Analysis", "publish", "(II)V"⟩, 11) := ⟨⟨by decide +kernel, by decide +kernel⟩, List.mem_of_getElem? (i := 191) (by decide +kernel), List.mem_of_getElem? (i := 572) (by decide +kernel), List.mem_of_getElem? (i := 573) (by decide +kernel)⟩
theorem lw_p19 : lw_okq (⟨"ConfinementAnalyzer$Closure", "applyRules", "(LConfinementAnalyzer$Roles;I)V"⟩, 2) := ⟨⟨by decide +kernel, by decide +kernel⟩, List.mem_of_getElem? (i := 236) (by decide +kernel), List.mem_of_getElem? (i := 585) (by decide +kernel), List.mem_of_getElem? (i := 586) (by decide +kernel)⟩
theorem lw_p20 : lw_okq (⟨"ConfinementAnalyzer$Closure", "grant", "(II)V"⟩, 2) := ⟨⟨by decide +kernel, by decide +kernel⟩, List.mem_of_getElem? (i := 236) (by decide +kernel), List.mem_of_getElem? (i := 591) (by decide +kernel), List.mem_of_getElem? (i := 592) (by decide +kernel)⟩
theorem lw_p21 : lw_okq (⟨"ConfinementAnalyzer$Closure", "takeFrom", "(LConfinementAnalyzer$Roles;II)V"⟩, 2) := ⟨⟨by decide +kernel, by decide +kernel⟩, List.mem_of_getElem? (i := 236) (by decide +kernel), List.mem_of_getElem? (i := 595) (by decide +kernel), List.mem_of_getElem? (i := 596) (by decide +kernel)⟩
theorem lw_p22 : lw_okq (⟨"ConfinementAnalyzer$Closure", "merge", "(LConfinementAnalyzer$Roles;I)V"⟩, 2) := ⟨⟨by decide +kernel, by decide +kernel⟩, List.mem_of_getElem? (i := 236) (by decide +kernel), List.mem_of_getElem? (i := 599) (by decide +kernel), List.mem_of_getElem? (i := 600) (by decide +kernel)⟩
theorem lw_p23 : lw_okq (⟨"ConfinementAnalyzer$Analysis", "enqueue", "(I)V"⟩, 11) := ⟨⟨by decide +kernel, by decide +kernel⟩, List.mem_of_getElem? (i := 191) (by decide +kernel), List.mem_of_getElem? (i := 624) (by decide +kernel), List.mem_of_getElem? (i := 625) (by decide +kernel)⟩
theorem lw_p24 : lw_okq (⟨"ConfinementAnalyzer", "findNeeded", "(I)I"⟩, 9) := ⟨⟨by decide +kernel, by decide +kernel⟩, List.mem_of_getElem? (i := 18) (by decide +kernel), List.mem_of_getElem? (i := 668) (by decide +kernel), List.mem_of_getElem? (i := 669) (by decide +kernel)⟩
theorem lw_p25 : lw_okq (⟨"ConfinementAnalyzer", "isRepair", "(I)Z"⟩, 9) := ⟨⟨by decide +kernel, by decide +kernel⟩, List.mem_of_getElem? (i := 18) (by decide +kernel), List.mem_of_getElem? (i := 673) (by decide +kernel), List.mem_of_getElem? (i := 674) (by decide +kernel)⟩
theorem lw_p26 : lw_okq (⟨"ConfinementAnalyzerModel", "advance", "()V"⟩, 17) := ⟨⟨by decide +kernel, by decide +kernel⟩, List.mem_of_getElem? (i := 735) (by decide +kernel), List.mem_of_getElem? (i := 809) (by decide +kernel), List.mem_of_getElem? (i := 810) (by decide +kernel)⟩
theorem lw_p27 : lw_okq (⟨"ConfinementAnalyzerModel", "characterAt", "(I)I"⟩, 17) := ⟨⟨by decide +kernel, by decide +kernel⟩, List.mem_of_getElem? (i := 735) (by decide +kernel), List.mem_of_getElem? (i := 813) (by decide +kernel), List.mem_of_getElem? (i := 814) (by decide +kernel)⟩
theorem lw_p28 : lw_okq (⟨"ConfinementAnalyzerModel", "keyword", "()I"⟩, 17) := ⟨⟨by decide +kernel, by decide +kernel⟩, List.mem_of_getElem? (i := 735) (by decide +kernel), List.mem_of_getElem? (i := 817) (by decide +kernel), List.mem_of_getElem? (i := 818) (by decide +kernel)⟩
theorem lw_p29 : lw_okq (⟨"ConfinementAnalyzerModel", "isLetter", "(II)Z"⟩, 17) := ⟨⟨by decide +kernel, by decide +kernel⟩, List.mem_of_getElem? (i := 735) (by decide +kernel), List.mem_of_getElem? (i := 821) (by decide +kernel), List.mem_of_getElem? (i := 822) (by decide +kernel)⟩
theorem lw_p30 : lw_okq (⟨"ConfinementAnalyzerModel", "isFine", "()Z"⟩, 17) := ⟨⟨by decide +kernel, by decide +kernel⟩, List.mem_of_getElem? (i := 735) (by decide +kernel), List.mem_of_getElem? (i := 825) (by decide +kernel), List.mem_of_getElem? (i := 826) (by decide +kernel)⟩
theorem lw_p31 : lw_okq (⟨"ConfinementAnalyzerModel", "take", "(Z)I"⟩, 17) := ⟨⟨by decide +kernel, by decide +kernel⟩, List.mem_of_getElem? (i := 735) (by decide +kernel), List.mem_of_getElem? (i := 829) (by decide +kernel), List.mem_of_getElem? (i := 830) (by decide +kernel)⟩
def lw_privs_2 : List (MethodName × Nat) := [(⟨"ConfinementAnalyzer$Analysis", "findOpenBox", "(LConfinementAnalyzer$Roles;II)I"⟩, 11), (⟨"ConfinementAnalyzer$Analysis", "findEndowment", "(LConfinementAnalyzer$Roles;II)Z"⟩, 11), (⟨"ConfinementAnalyzer$Analysis", "publish", "(II)V"⟩, 11), (⟨"ConfinementAnalyzer$Closure", "applyRules", "(LConfinementAnalyzer$Roles;I)V"⟩, 2), (⟨"ConfinementAnalyzer$Closure", "grant", "(II)V"⟩, 2), (⟨"ConfinementAnalyzer$Closure", "takeFrom", "(LConfinementAnalyzer$Roles;II)V"⟩, 2), (⟨"ConfinementAnalyzer$Closure", "merge", "(LConfinementAnalyzer$Roles;I)V"⟩, 2), (⟨"ConfinementAnalyzer$Analysis", "enqueue", "(I)V"⟩, 11), (⟨"ConfinementAnalyzer", "findNeeded", "(I)I"⟩, 9), (⟨"ConfinementAnalyzer", "isRepair", "(I)Z"⟩, 9), (⟨"ConfinementAnalyzerModel", "advance", "()V"⟩, 17), (⟨"ConfinementAnalyzerModel", "characterAt", "(I)I"⟩, 17), (⟨"ConfinementAnalyzerModel", "keyword", "()I"⟩, 17), (⟨"ConfinementAnalyzerModel", "isLetter", "(II)Z"⟩, 17), (⟨"ConfinementAnalyzerModel", "isFine", "()Z"⟩, 17), (⟨"ConfinementAnalyzerModel", "take", "(Z)I"⟩, 17)]
theorem lw_r2 : ∀ q ∈ lw_privs_2, lw_okq q := List.forall_mem_cons.mpr ⟨lw_p16, List.forall_mem_cons.mpr ⟨lw_p17, List.forall_mem_cons.mpr ⟨lw_p18, List.forall_mem_cons.mpr ⟨lw_p19, List.forall_mem_cons.mpr ⟨lw_p20, List.forall_mem_cons.mpr ⟨lw_p21, List.forall_mem_cons.mpr ⟨lw_p22, List.forall_mem_cons.mpr ⟨lw_p23, List.forall_mem_cons.mpr ⟨lw_p24, List.forall_mem_cons.mpr ⟨lw_p25, List.forall_mem_cons.mpr ⟨lw_p26, List.forall_mem_cons.mpr ⟨lw_p27, List.forall_mem_cons.mpr ⟨lw_p28, List.forall_mem_cons.mpr ⟨lw_p29, List.forall_mem_cons.mpr ⟨lw_p30, List.forall_mem_cons.mpr ⟨lw_p31, fun _ h => absurd h List.not_mem_nil⟩⟩⟩⟩⟩⟩⟩⟩⟩⟩⟩⟩⟩⟩⟩⟩
theorem lw_p32 : lw_okq (⟨"ConfinementAnalyzerModel", "readHold", "()V"⟩, 17) := ⟨⟨by decide +kernel, by decide +kernel⟩, List.mem_of_getElem? (i := 735) (by decide +kernel), List.mem_of_getElem? (i := 833) (by decide +kernel), List.mem_of_getElem? (i := 834) (by decide +kernel)⟩
theorem lw_p33 : lw_okq (⟨"ConfinementAnalyzerModel", "readObject", "(I)V"⟩, 17) := ⟨⟨by decide +kernel, by decide +kernel⟩, List.mem_of_getElem? (i := 735) (by decide +kernel), List.mem_of_getElem? (i := 843) (by decide +kernel), List.mem_of_getElem? (i := 844) (by decide +kernel)⟩
theorem lw_p34 : lw_okq (⟨"ConfinementAnalyzerModel", "number", "(I)I"⟩, 17) := ⟨⟨by decide +kernel, by decide +kernel⟩, List.mem_of_getElem? (i := 735) (by decide +kernel), List.mem_of_getElem? (i := 847) (by decide +kernel), List.mem_of_getElem? (i := 848) (by decide +kernel)⟩
theorem lw_p35 : lw_okq (⟨"ConfinementAnalyzerModel", "save", "()V"⟩, 17) := ⟨⟨by decide +kernel, by decide +kernel⟩, List.mem_of_getElem? (i := 735) (by decide +kernel), List.mem_of_getElem? (i := 851) (by decide +kernel), List.mem_of_getElem? (i := 852) (by decide +kernel)⟩
theorem lw_p36 : lw_okq (⟨"ConfinementAnalyzerModel", "beginRun", "()V"⟩, 17) := ⟨⟨by decide +kernel, by decide +kernel⟩, List.mem_of_getElem? (i := 735) (by decide +kernel), List.mem_of_getElem? (i := 855) (by decide +kernel), List.mem_of_getElem? (i := 856) (by decide +kernel)⟩
theorem lw_p37 : lw_okq (⟨"ConfinementAnalyzerModel", "isObject", "(I)Z"⟩, 17) := ⟨⟨by decide +kernel, by decide +kernel⟩, List.mem_of_getElem? (i := 735) (by decide +kernel), List.mem_of_getElem? (i := 867) (by decide +kernel), List.mem_of_getElem? (i := 868) (by decide +kernel)⟩
theorem lw_p38 : lw_okq (⟨"ConfinementAnalyzerModel", "isOf", "(II)Z"⟩, 17) := ⟨⟨by decide +kernel, by decide +kernel⟩, List.mem_of_getElem? (i := 735) (by decide +kernel), List.mem_of_getElem? (i := 875) (by decide +kernel), List.mem_of_getElem? (i := 876) (by decide +kernel)⟩
theorem lw_p39 : lw_okq (⟨"ConfinementAnalyzerModel", "change", "(II)I"⟩, 17) := ⟨⟨by decide +kernel, by decide +kernel⟩, List.mem_of_getElem? (i := 735) (by decide +kernel), List.mem_of_getElem? (i := 883) (by decide +kernel), List.mem_of_getElem? (i := 884) (by decide +kernel)⟩
theorem lw_p40 : lw_okq (⟨"ConfinementAnalyzerModel", "areObjects", "(II)Z"⟩, 17) := ⟨⟨by decide +kernel, by decide +kernel⟩, List.mem_of_getElem? (i := 735) (by decide +kernel), List.mem_of_getElem? (i := 907) (by decide +kernel), List.mem_of_getElem? (i := 908) (by decide +kernel)⟩
theorem lw_p41 : lw_okq (⟨"ConfinementAnalyzerModel", "roundOf", "(II)I"⟩, 17) := ⟨⟨by decide +kernel, by decide +kernel⟩, List.mem_of_getElem? (i := 735) (by decide +kernel), List.mem_of_getElem? (i := 911) (by decide +kernel), List.mem_of_getElem? (i := 912) (by decide +kernel)⟩
theorem lw_p42 : lw_okq (⟨"ConfinementAnalyzerModel", "analyse", "(I)V"⟩, 17) := ⟨⟨by decide +kernel, by decide +kernel⟩, List.mem_of_getElem? (i := 735) (by decide +kernel), List.mem_of_getElem? (i := 915) (by decide +kernel), List.mem_of_getElem? (i := 916) (by decide +kernel)⟩
theorem lw_p43 : lw_okq (⟨"ConfinementAnalyzerModel", "findRound", "(I)Z"⟩, 17) := ⟨⟨by decide +kernel, by decide +kernel⟩, List.mem_of_getElem? (i := 735) (by decide +kernel), List.mem_of_getElem? (i := 922) (by decide +kernel), List.mem_of_getElem? (i := 923) (by decide +kernel)⟩
theorem lw_p44 : lw_okq (⟨"ConfinementAnalyzerModel", "ruleFor", "(III)I"⟩, 17) := ⟨⟨by decide +kernel, by decide +kernel⟩, List.mem_of_getElem? (i := 735) (by decide +kernel), List.mem_of_getElem? (i := 926) (by decide +kernel), List.mem_of_getElem? (i := 927) (by decide +kernel)⟩
theorem lw_p45 : lw_okq (⟨"ConfinementAnalyzerModel", "partnerBy", "(IIII)I"⟩, 17) := ⟨⟨by decide +kernel, by decide +kernel⟩, List.mem_of_getElem? (i := 735) (by decide +kernel), List.mem_of_getElem? (i := 930) (by decide +kernel), List.mem_of_getElem? (i := 931) (by decide +kernel)⟩
theorem lw_p46 : lw_okq (⟨"ConfinementAnalyzerModel", "giver", "(III)I"⟩, 17) := ⟨⟨by decide +kernel, by decide +kernel⟩, List.mem_of_getElem? (i := 735) (by decide +kernel), List.mem_of_getElem? (i := 934) (by decide +kernel), List.mem_of_getElem? (i := 935) (by decide +kernel)⟩
theorem lw_p47 : lw_okq (⟨"ConfinementAnalyzerModel", "does", "(II)Z"⟩, 17) := ⟨⟨by decide +kernel, by decide +kernel⟩, List.mem_of_getElem? (i := 735) (by decide +kernel), List.mem_of_getElem? (i := 938) (by decide +kernel), List.mem_of_getElem? (i := 939) (by decide +kernel)⟩
def lw_privs_3 : List (MethodName × Nat) := [(⟨"ConfinementAnalyzerModel", "readHold", "()V"⟩, 17), (⟨"ConfinementAnalyzerModel", "readObject", "(I)V"⟩, 17), (⟨"ConfinementAnalyzerModel", "number", "(I)I"⟩, 17), (⟨"ConfinementAnalyzerModel", "save", "()V"⟩, 17), (⟨"ConfinementAnalyzerModel", "beginRun", "()V"⟩, 17), (⟨"ConfinementAnalyzerModel", "isObject", "(I)Z"⟩, 17), (⟨"ConfinementAnalyzerModel", "isOf", "(II)Z"⟩, 17), (⟨"ConfinementAnalyzerModel", "change", "(II)I"⟩, 17), (⟨"ConfinementAnalyzerModel", "areObjects", "(II)Z"⟩, 17), (⟨"ConfinementAnalyzerModel", "roundOf", "(II)I"⟩, 17), (⟨"ConfinementAnalyzerModel", "analyse", "(I)V"⟩, 17), (⟨"ConfinementAnalyzerModel", "findRound", "(I)Z"⟩, 17), (⟨"ConfinementAnalyzerModel", "ruleFor", "(III)I"⟩, 17), (⟨"ConfinementAnalyzerModel", "partnerBy", "(IIII)I"⟩, 17), (⟨"ConfinementAnalyzerModel", "giver", "(III)I"⟩, 17), (⟨"ConfinementAnalyzerModel", "does", "(II)Z"⟩, 17)]
theorem lw_r3 : ∀ q ∈ lw_privs_3, lw_okq q := List.forall_mem_cons.mpr ⟨lw_p32, List.forall_mem_cons.mpr ⟨lw_p33, List.forall_mem_cons.mpr ⟨lw_p34, List.forall_mem_cons.mpr ⟨lw_p35, List.forall_mem_cons.mpr ⟨lw_p36, List.forall_mem_cons.mpr ⟨lw_p37, List.forall_mem_cons.mpr ⟨lw_p38, List.forall_mem_cons.mpr ⟨lw_p39, List.forall_mem_cons.mpr ⟨lw_p40, List.forall_mem_cons.mpr ⟨lw_p41, List.forall_mem_cons.mpr ⟨lw_p42, List.forall_mem_cons.mpr ⟨lw_p43, List.forall_mem_cons.mpr ⟨lw_p44, List.forall_mem_cons.mpr ⟨lw_p45, List.forall_mem_cons.mpr ⟨lw_p46, List.forall_mem_cons.mpr ⟨lw_p47, fun _ h => absurd h List.not_mem_nil⟩⟩⟩⟩⟩⟩⟩⟩⟩⟩⟩⟩⟩⟩⟩⟩
theorem lw_p48 : lw_okq (⟨"ConfinementAnalyzerModel", "isFound", "(III)Z"⟩, 17) := ⟨⟨by decide +kernel, by decide +kernel⟩, List.mem_of_getElem? (i := 735) (by decide +kernel), List.mem_of_getElem? (i := 942) (by decide +kernel), List.mem_of_getElem? (i := 943) (by decide +kernel)⟩
theorem lw_p49 : lw_okq (⟨"ConfinementAnalyzerModel", "answerer", "(III)I"⟩, 17) := ⟨⟨by decide +kernel, by decide +kernel⟩, List.mem_of_getElem? (i := 735) (by decide +kernel), List.mem_of_getElem? (i := 946) (by decide +kernel), List.mem_of_getElem? (i := 947) (by decide +kernel)⟩
theorem lw_p50 : lw_okq (⟨"ConfinementAnalyzerModel", "openedBox", "(III)I"⟩, 17) := ⟨⟨by decide +kernel, by decide +kernel⟩, List.mem_of_getElem? (i := 735) (by decide +kernel), List.mem_of_getElem? (i := 950) (by decide +kernel), List.mem_of_getElem? (i := 951) (by decide +kernel)⟩
theorem lw_p51 : lw_okq (⟨"ConfinementAnalyzerModel", "keyOf", "(III)I"⟩, 17) := ⟨⟨by decide +kernel, by decide +kernel⟩, List.mem_of_getElem? (i := 735) (by decide +kernel), List.mem_of_getElem? (i := 954) (by decide +kernel), List.mem_of_getElem? (i := 955) (by decide +kernel)⟩
theorem lw_p52 : lw_okq (⟨"ConfinementAnalyzerModel", "creator", "(III)I"⟩, 17) := ⟨⟨by decide +kernel, by decide +kernel⟩, List.mem_of_getElem? (i := 735) (by decide +kernel), List.mem_of_getElem? (i := 958) (by decide +kernel), List.mem_of_getElem? (i := 959) (by decide +kernel)⟩
theorem lw_p53 : lw_okq (⟨"ConfinementAnalyzerModel", "endower", "(III)I"⟩, 17) := ⟨⟨by decide +kernel, by decide +kernel⟩, List.mem_of_getElem? (i := 735) (by decide +kernel), List.mem_of_getElem? (i := 962) (by decide +kernel), List.mem_of_getElem? (i := 963) (by decide +kernel)⟩
theorem lw_p54 : lw_okq (⟨"ConfinementAnalyzerModel", "userOf", "(II)I"⟩, 17) := ⟨⟨by decide +kernel, by decide +kernel⟩, List.mem_of_getElem? (i := 735) (by decide +kernel), List.mem_of_getElem? (i := 966) (by decide +kernel), List.mem_of_getElem? (i := 967) (by decide +kernel)⟩
theorem lw_p55 : lw_okq (⟨"ConfinementAnalyzerModel", "derive", "(II)V"⟩, 17) := ⟨⟨by decide +kernel, by decide +kernel⟩, List.mem_of_getElem? (i := 735) (by decide +kernel), List.mem_of_getElem? (i := 986) (by decide +kernel), List.mem_of_getElem? (i := 987) (by decide +kernel)⟩
theorem lw_p56 : lw_okq (⟨"ConfinementAnalyzerModel", "derivePremises", "(II)V"⟩, 17) := ⟨⟨by decide +kernel, by decide +kernel⟩, List.mem_of_getElem? (i := 735) (by decide +kernel), List.mem_of_getElem? (i := 990) (by decide +kernel), List.mem_of_getElem? (i := 991) (by decide +kernel)⟩
theorem lw_p57 : lw_okq (⟨"ConfinementAnalyzerModel", "merge", "()Z"⟩, 17) := ⟨⟨by decide +kernel, by decide +kernel⟩, List.mem_of_getElem? (i := 735) (by decide +kernel), List.mem_of_getElem? (i := 1002) (by decide +kernel), List.mem_of_getElem? (i := 1003) (by decide +kernel)⟩
theorem lw_p58 : lw_okq (⟨"ConfinementAnalyzerModel", "mergeGroups", "(II)Z"⟩, 17) := ⟨⟨by decide +kernel, by decide +kernel⟩, List.mem_of_getElem? (i := 735) (by decide +kernel), List.mem_of_getElem? (i := 1006) (by decide +kernel), List.mem_of_getElem? (i := 1007) (by decide +kernel)⟩
theorem lw_p59 : lw_okq (⟨"ConfinementAnalyzerModel", "requirementOf", "(II)I"⟩, 17) := ⟨⟨by decide +kernel, by decide +kernel⟩, List.mem_of_getElem? (i := 735) (by decide +kernel), List.mem_of_getElem? (i := 1014) (by decide +kernel), List.mem_of_getElem? (i := 1015) (by decide +kernel)⟩
theorem lw_p60 : lw_okq (⟨"ConfinementAnalyzerModel", "violations", "()I"⟩, 17) := ⟨⟨by decide +kernel, by decide +kernel⟩, List.mem_of_getElem? (i := 735) (by decide +kernel), List.mem_of_getElem? (i := 1026) (by decide +kernel), List.mem_of_getElem? (i := 1027) (by decide +kernel)⟩
theorem lw_p61 : lw_okq (⟨"ConfinementAnalyzerModel", "holds", "(II)Z"⟩, 17) := ⟨⟨by decide +kernel, by decide +kernel⟩, List.mem_of_getElem? (i := 735) (by decide +kernel), List.mem_of_getElem? (i := 1041) (by decide +kernel), List.mem_of_getElem? (i := 1042) (by decide +kernel)⟩
theorem lw_p62 : lw_okq (⟨"ConfinementAnalyzerModel", "saveAndHold", "(II)I"⟩, 17) := ⟨⟨by decide +kernel, by decide +kernel⟩, List.mem_of_getElem? (i := 735) (by decide +kernel), List.mem_of_getElem? (i := 1045) (by decide +kernel), List.mem_of_getElem? (i := 1046) (by decide +kernel)⟩
def lw_privs_4 : List (MethodName × Nat) := [(⟨"ConfinementAnalyzerModel", "isFound", "(III)Z"⟩, 17), (⟨"ConfinementAnalyzerModel", "answerer", "(III)I"⟩, 17), (⟨"ConfinementAnalyzerModel", "openedBox", "(III)I"⟩, 17), (⟨"ConfinementAnalyzerModel", "keyOf", "(III)I"⟩, 17), (⟨"ConfinementAnalyzerModel", "creator", "(III)I"⟩, 17), (⟨"ConfinementAnalyzerModel", "endower", "(III)I"⟩, 17), (⟨"ConfinementAnalyzerModel", "userOf", "(II)I"⟩, 17), (⟨"ConfinementAnalyzerModel", "derive", "(II)V"⟩, 17), (⟨"ConfinementAnalyzerModel", "derivePremises", "(II)V"⟩, 17), (⟨"ConfinementAnalyzerModel", "merge", "()Z"⟩, 17), (⟨"ConfinementAnalyzerModel", "mergeGroups", "(II)Z"⟩, 17), (⟨"ConfinementAnalyzerModel", "requirementOf", "(II)I"⟩, 17), (⟨"ConfinementAnalyzerModel", "violations", "()I"⟩, 17), (⟨"ConfinementAnalyzerModel", "holds", "(II)Z"⟩, 17), (⟨"ConfinementAnalyzerModel", "saveAndHold", "(II)I"⟩, 17)]
theorem lw_r4 : ∀ q ∈ lw_privs_4, lw_okq q := List.forall_mem_cons.mpr ⟨lw_p48, List.forall_mem_cons.mpr ⟨lw_p49, List.forall_mem_cons.mpr ⟨lw_p50, List.forall_mem_cons.mpr ⟨lw_p51, List.forall_mem_cons.mpr ⟨lw_p52, List.forall_mem_cons.mpr ⟨lw_p53, List.forall_mem_cons.mpr ⟨lw_p54, List.forall_mem_cons.mpr ⟨lw_p55, List.forall_mem_cons.mpr ⟨lw_p56, List.forall_mem_cons.mpr ⟨lw_p57, List.forall_mem_cons.mpr ⟨lw_p58, List.forall_mem_cons.mpr ⟨lw_p59, List.forall_mem_cons.mpr ⟨lw_p60, List.forall_mem_cons.mpr ⟨lw_p61, List.forall_mem_cons.mpr ⟨lw_p62, fun _ h => absurd h List.not_mem_nil⟩⟩⟩⟩⟩⟩⟩⟩⟩⟩⟩⟩⟩⟩⟩
def lw_privs : List (MethodName × Nat) := lw_privs_1 ++ (lw_privs_2 ++ (lw_privs_3 ++ (lw_privs_4)))
def lw_tbl : List Cond := k2_sels lw_privs ++ tables_1
theorem lw_privs_ok : ∀ q ∈ lw_privs, lw_okq q := by
  show ∀ q ∈ lw_privs_1 ++ (lw_privs_2 ++ (lw_privs_3 ++ (lw_privs_4))), lw_okq q
  exact List.forall_mem_append.mpr ⟨lw_r1, List.forall_mem_append.mpr ⟨lw_r2, List.forall_mem_append.mpr ⟨lw_r3, lw_r4⟩⟩⟩
end
section
def RX0 : String := "ConfinementAnalyzer$Analysis"
def TX0 : u_T := fun k => match k with
  | 0 => ("ConfinementAnalyzer$Analysis", "rows", "[I", true)
  | 1 => ("ConfinementAnalyzer$Analysis", "columns", "[I", true)
  | 2 => ("ConfinementAnalyzer$Analysis", "rounds", "[I", true)
  | 3 => ("ConfinementAnalyzer$Analysis", "rules", "[I", true)
  | 4 => ("ConfinementAnalyzer$Analysis", "partners", "[I", true)
  | 5 => ("ConfinementAnalyzer$Analysis", "firstPremises", "[I", true)
  | 6 => ("ConfinementAnalyzer$Analysis", "secondPremises", "[I", true)
  | 7 => ("ConfinementAnalyzer$Analysis", "lastRound", "I", false)
  | 8 => ("ConfinementAnalyzer$Analysis", "marks", "[I", true)
  | 9 => ("ConfinementAnalyzer$Analysis", "queue", "[I", true)
  | _ => ("ConfinementAnalyzer$Analysis", "queued", "I", false)
def tyX0 : Nat → FieldType := fun k => match k with
  | 0 => .array .int
  | 1 => .array .int
  | 2 => .array .int
  | 3 => .array .int
  | 4 => .array .int
  | 5 => .array .int
  | 6 => .array .int
  | 7 => .int
  | 8 => .array .int
  | 9 => .array .int
  | _ => .int
abbrev wsX00 : List Cond := u_ws RX0 TX0 11
theorem nmX0 : ∀ a, a < 11 → ∀ b, b < 11 → a ≠ b → (TX0 a).2.1 ≠ (TX0 b).2.1 := by decide +kernel
theorem tyX0_ok : ∀ k, k < 11 → parseFieldDescriptor (TX0 k).2.2.1 = some (tyX0 k) := by decide +kernel
abbrev cX0_init : ByteArray := prog_2_method_1_code
def yX0_init : MethodName := ⟨RX0, "<init>", "()V"⟩
abbrev cX0_findAll : ByteArray := prog_2_method_2_code
def yX0_findAll : MethodName := ⟨RX0, "findAll", "(LConfinementAnalyzer$Roles;LConfinementAnalyzer$State;)V"⟩
abbrev cX0_findInitial : ByteArray := prog_2_method_3_code
def yX0_findInitial : MethodName := ⟨RX0, "findInitial", "(I)V"⟩
abbrev cX0_findRound : ByteArray := prog_2_method_4_code
def yX0_findRound : MethodName := ⟨RX0, "findRound", "(LConfinementAnalyzer$Roles;I)Z"⟩
abbrev cX0_publish : ByteArray := prog_2_method_5_code
def yX0_publish : MethodName := ⟨RX0, "publish", "(II)V"⟩
abbrev cX0_findGift : ByteArray := prog_2_method_6_code
def yX0_findGift : MethodName := ⟨RX0, "findGift", "(LConfinementAnalyzer$Roles;II)Z"⟩
abbrev cX0_findTaking : ByteArray := prog_2_method_7_code
def yX0_findTaking : MethodName := ⟨RX0, "findTaking", "(LConfinementAnalyzer$Roles;II)Z"⟩
abbrev cX0_findOpenBox : ByteArray := prog_2_method_8_code
def yX0_findOpenBox : MethodName := ⟨RX0, "findOpenBox", "(LConfinementAnalyzer$Roles;II)I"⟩
abbrev cX0_findEndowment : ByteArray := prog_2_method_9_code
def yX0_findEndowment : MethodName := ⟨RX0, "findEndowment", "(LConfinementAnalyzer$Roles;II)Z"⟩
abbrev cX0_setCause : ByteArray := prog_2_method_10_code
def yX0_setCause : MethodName := ⟨RX0, "setCause", "(IIIII)V"⟩
abbrev cX0_countDerived : ByteArray := prog_2_method_11_code
def yX0_countDerived : MethodName := ⟨RX0, "countDerived", "(I)I"⟩
abbrev cX0_enqueue : ByteArray := prog_2_method_12_code
def yX0_enqueue : MethodName := ⟨RX0, "enqueue", "(I)V"⟩
def RX1 : String := "ConfinementAnalyzer$Closure"
def TX1 : u_T := fun k => match k with
  | 0 => ("ConfinementAnalyzer$Closure", "rows", "[I", true)
  | _ => ("ConfinementAnalyzer$Closure", "grown", "Z", false)
def tyX1 : Nat → FieldType := fun k => match k with
  | 0 => .array .int
  | _ => .boolean
abbrev wsX10 : List Cond := u_ws RX1 TX1 2
theorem nmX1 : ∀ a, a < 2 → ∀ b, b < 2 → a ≠ b → (TX1 a).2.1 ≠ (TX1 b).2.1 := by decide +kernel
theorem tyX1_ok : ∀ k, k < 2 → parseFieldDescriptor (TX1 k).2.2.1 = some (tyX1 k) := by decide +kernel
abbrev cX1_init : ByteArray := prog_3_method_1_code
def yX1_init : MethodName := ⟨RX1, "<init>", "()V"⟩
abbrev cX1_start : ByteArray := prog_3_method_2_code
def yX1_start : MethodName := ⟨RX1, "start", "(LConfinementAnalyzer$State;I)V"⟩
abbrev cX1_close : ByteArray := prog_3_method_3_code
def yX1_close : MethodName := ⟨RX1, "close", "(LConfinementAnalyzer$Roles;Z)V"⟩
abbrev cX1_applyRules : ByteArray := prog_3_method_4_code
def yX1_applyRules : MethodName := ⟨RX1, "applyRules", "(LConfinementAnalyzer$Roles;I)V"⟩
abbrev cX1_takeFrom : ByteArray := prog_3_method_5_code
def yX1_takeFrom : MethodName := ⟨RX1, "takeFrom", "(LConfinementAnalyzer$Roles;II)V"⟩
abbrev cX1_merge : ByteArray := prog_3_method_6_code
def yX1_merge : MethodName := ⟨RX1, "merge", "(LConfinementAnalyzer$Roles;I)V"⟩
abbrev cX1_grant : ByteArray := prog_3_method_7_code
def yX1_grant : MethodName := ⟨RX1, "grant", "(II)V"⟩
def RX2 : String := "ConfinementAnalyzer$History"
def TX2 : u_T := fun k => match k with
  | 0 => ("ConfinementAnalyzer$History", "slots", "[LConfinementAnalyzer$State;", true)
  | 1 => ("ConfinementAnalyzer$History", "next", "I", false)
  | _ => ("ConfinementAnalyzer$History", "size", "I", false)
def tyX2 : Nat → FieldType := fun k => match k with
  | 0 => .array (.object "ConfinementAnalyzer$State")
  | 1 => .int
  | _ => .int
abbrev wsX20 : List Cond := u_ws RX2 TX2 3
theorem nmX2 : ∀ a, a < 3 → ∀ b, b < 3 → a ≠ b → (TX2 a).2.1 ≠ (TX2 b).2.1 := by decide +kernel
theorem tyX2_ok : ∀ k, k < 3 → parseFieldDescriptor (TX2 k).2.2.1 = some (tyX2 k) := by decide +kernel
abbrev cX2_init : ByteArray := prog_4_method_1_code
def yX2_init : MethodName := ⟨RX2, "<init>", "()V"⟩
abbrev cX2_save : ByteArray := prog_4_method_2_code
def yX2_save : MethodName := ⟨RX2, "save", "(LConfinementAnalyzer$State;)V"⟩
abbrev cX2_restoreInto : ByteArray := prog_4_method_3_code
def yX2_restoreInto : MethodName := ⟨RX2, "restoreInto", "(LConfinementAnalyzer$State;)V"⟩
def RX3 : String := "ConfinementAnalyzer$Roles"
def TX3 : u_T := fun k => match k with
  | 0 => ("ConfinementAnalyzer$Roles", "objectCount", "I", false)
  | 1 => ("ConfinementAnalyzer$Roles", "givers", "I", false)
  | 2 => ("ConfinementAnalyzer$Roles", "takers", "I", false)
  | 3 => ("ConfinementAnalyzer$Roles", "keepers", "I", false)
  | 4 => ("ConfinementAnalyzer$Roles", "answerers", "I", false)
  | 5 => ("ConfinementAnalyzer$Roles", "factories", "I", false)
  | 6 => ("ConfinementAnalyzer$Roles", "holders", "I", false)
  | 7 => ("ConfinementAnalyzer$Roles", "targets", "[I", true)
  | 8 => ("ConfinementAnalyzer$Roles", "openers", "[I", true)
  | 9 => ("ConfinementAnalyzer$Roles", "wrappers", "[I", true)
  | 10 => ("ConfinementAnalyzer$Roles", "makers", "[I", true)
  | _ => ("ConfinementAnalyzer$Roles", "mates", "[I", true)
def tyX3 : Nat → FieldType := fun k => match k with
  | 0 => .int
  | 1 => .int
  | 2 => .int
  | 3 => .int
  | 4 => .int
  | 5 => .int
  | 6 => .int
  | 7 => .array .int
  | 8 => .array .int
  | 9 => .array .int
  | 10 => .array .int
  | _ => .array .int
abbrev wsX30 : List Cond := u_ws RX3 TX3 12
theorem nmX3 : ∀ a, a < 12 → ∀ b, b < 12 → a ≠ b → (TX3 a).2.1 ≠ (TX3 b).2.1 := by decide +kernel
theorem tyX3_ok : ∀ k, k < 12 → parseFieldDescriptor (TX3 k).2.2.1 = some (tyX3 k) := by decide +kernel
abbrev cX3_init : ByteArray := prog_5_method_1_code
def yX3_init : MethodName := ⟨RX3, "<init>", "()V"⟩
abbrev cX3_readFrom : ByteArray := prog_5_method_2_code
def yX3_readFrom : MethodName := ⟨RX3, "readFrom", "(LConfinementAnalyzer$State;)V"⟩
abbrev cX3_readObject : ByteArray := prog_5_method_3_code
def yX3_readObject : MethodName := ⟨RX3, "readObject", "(LConfinementAnalyzer$State;I)V"⟩
abbrev cX3_agentsWith : ByteArray := prog_5_method_4_code
def yX3_agentsWith : MethodName := ⟨RX3, "agentsWith", "(LConfinementAnalyzer$State;I)I"⟩
def RX4 : String := "ConfinementAnalyzer$State"
def TX4 : u_T := fun k => match k with
  | 0 => ("ConfinementAnalyzer$State", "objectCount", "I", false)
  | 1 => ("ConfinementAnalyzer$State", "kinds", "[I", true)
  | 2 => ("ConfinementAnalyzer$State", "traits", "[I", true)
  | 3 => ("ConfinementAnalyzer$State", "targets", "[I", true)
  | 4 => ("ConfinementAnalyzer$State", "groups", "[I", true)
  | 5 => ("ConfinementAnalyzer$State", "referenceCount", "I", false)
  | 6 => ("ConfinementAnalyzer$State", "referenceHolders", "[I", true)
  | 7 => ("ConfinementAnalyzer$State", "referenceObjects", "[I", true)
  | 8 => ("ConfinementAnalyzer$State", "requirementCount", "I", false)
  | 9 => ("ConfinementAnalyzer$State", "requirementHolders", "[I", true)
  | 10 => ("ConfinementAnalyzer$State", "requirementObjects", "[I", true)
  | _ => ("ConfinementAnalyzer$State", "runRows", "[I", true)
def tyX4 : Nat → FieldType := fun k => match k with
  | 0 => .int
  | 1 => .array .int
  | 2 => .array .int
  | 3 => .array .int
  | 4 => .array .int
  | 5 => .int
  | 6 => .array .int
  | 7 => .array .int
  | 8 => .int
  | 9 => .array .int
  | 10 => .array .int
  | _ => .array .int
abbrev wsX40 : List Cond := u_ws RX4 TX4 12
theorem nmX4 : ∀ a, a < 12 → ∀ b, b < 12 → a ≠ b → (TX4 a).2.1 ≠ (TX4 b).2.1 := by decide +kernel
theorem tyX4_ok : ∀ k, k < 12 → parseFieldDescriptor (TX4 k).2.2.1 = some (tyX4 k) := by decide +kernel
abbrev cX4_init : ByteArray := prog_6_method_1_code
def yX4_init : MethodName := ⟨RX4, "<init>", "()V"⟩
abbrev cX4_reset : ByteArray := prog_6_method_2_code
def yX4_reset : MethodName := ⟨RX4, "reset", "()V"⟩
abbrev cX4_copyFrom : ByteArray := prog_6_method_3_code
def yX4_copyFrom : MethodName := ⟨RX4, "copyFrom", "(LConfinementAnalyzer$State;)V"⟩
abbrev cX4_has : ByteArray := prog_6_method_4_code
def yX4_has : MethodName := ⟨RX4, "has", "(I)Z"⟩
abbrev cX4_hasBoth : ByteArray := prog_6_method_5_code
def yX4_hasBoth : MethodName := ⟨RX4, "hasBoth", "(II)Z"⟩
abbrev cX4_isOfKind : ByteArray := prog_6_method_6_code
def yX4_isOfKind : MethodName := ⟨RX4, "isOfKind", "(II)Z"⟩
abbrev cX4_isAgent : ByteArray := prog_6_method_7_code
def yX4_isAgent : MethodName := ⟨RX4, "isAgent", "(I)Z"⟩
abbrev cX4_isAgentWith : ByteArray := prog_6_method_8_code
def yX4_isAgentWith : MethodName := ⟨RX4, "isAgentWith", "(II)Z"⟩
abbrev cX4_canHold : ByteArray := prog_6_method_9_code
def yX4_canHold : MethodName := ⟨RX4, "canHold", "(I)Z"⟩
abbrev cX4_fits : ByteArray := prog_6_method_10_code
def yX4_fits : MethodName := ⟨RX4, "fits", "(II)Z"⟩
abbrev cX4_declareObject : ByteArray := prog_6_method_11_code
def yX4_declareObject : MethodName := ⟨RX4, "declareObject", "(IIII)V"⟩
abbrev cX4_listsReference : ByteArray := prog_6_method_12_code
def yX4_listsReference : MethodName := ⟨RX4, "listsReference", "(II)Z"⟩
abbrev cX4_listReference : ByteArray := prog_6_method_13_code
def yX4_listReference : MethodName := ⟨RX4, "listReference", "(II)V"⟩
abbrev cX4_unlistReference : ByteArray := prog_6_method_14_code
def yX4_unlistReference : MethodName := ⟨RX4, "unlistReference", "(I)V"⟩
abbrev cX4_findRequirement : ByteArray := prog_6_method_15_code
def yX4_findRequirement : MethodName := ⟨RX4, "findRequirement", "(II)I"⟩
abbrev cX4_addRequirement : ByteArray := prog_6_method_16_code
def yX4_addRequirement : MethodName := ⟨RX4, "addRequirement", "(II)V"⟩
abbrev cX4_dropRequirement : ByteArray := prog_6_method_17_code
def yX4_dropRequirement : MethodName := ⟨RX4, "dropRequirement", "(I)V"⟩
abbrev cX4_countViolations : ByteArray := prog_6_method_18_code
def yX4_countViolations : MethodName := ⟨RX4, "countViolations", "([I)I"⟩
abbrev cX4_fillInitialRows : ByteArray := prog_6_method_19_code
def yX4_fillInitialRows : MethodName := ⟨RX4, "fillInitialRows", "([II)V"⟩
abbrev cX4_startRun : ByteArray := prog_6_method_20_code
def yX4_startRun : MethodName := ⟨RX4, "startRun", "()V"⟩
abbrev cX4_runHolds : ByteArray := prog_6_method_21_code
def yX4_runHolds : MethodName := ⟨RX4, "runHolds", "(II)Z"⟩
abbrev cX4_addToRun : ByteArray := prog_6_method_22_code
def yX4_addToRun : MethodName := ⟨RX4, "addToRun", "(II)I"⟩
abbrev cX4_countRun : ByteArray := prog_6_method_23_code
def yX4_countRun : MethodName := ⟨RX4, "countRun", "()I"⟩
def RX5 : String := "ConfinementAnalyzer$Text"
def TX5 : u_T := fun k => match k with
  | 0 => ("ConfinementAnalyzer$Text", "characters", "[I", true)
  | 1 => ("ConfinementAnalyzer$Text", "length", "I", false)
  | 2 => ("ConfinementAnalyzer$Text", "type", "I", false)
  | 3 => ("ConfinementAnalyzer$Text", "first", "I", false)
  | 4 => ("ConfinementAnalyzer$Text", "behind", "I", false)
  | _ => ("ConfinementAnalyzer$Text", "numbers", "[I", true)
def tyX5 : Nat → FieldType := fun k => match k with
  | 0 => .array .int
  | 1 => .int
  | 2 => .int
  | 3 => .int
  | 4 => .int
  | _ => .array .int
abbrev wsX50 : List Cond := u_ws RX5 TX5 6
theorem nmX5 : ∀ a, a < 6 → ∀ b, b < 6 → a ≠ b → (TX5 a).2.1 ≠ (TX5 b).2.1 := by decide +kernel
theorem tyX5_ok : ∀ k, k < 6 → parseFieldDescriptor (TX5 k).2.2.1 = some (tyX5 k) := by decide +kernel
abbrev cX5_init : ByteArray := prog_7_method_1_code
def yX5_init : MethodName := ⟨RX5, "<init>", "()V"⟩
abbrev cX5_readInto : ByteArray := prog_7_method_2_code
def yX5_readInto : MethodName := ⟨RX5, "readInto", "(LConfinementAnalyzer$State;)I"⟩
abbrev cX5_readStatement : ByteArray := prog_7_method_3_code
def yX5_readStatement : MethodName := ⟨RX5, "readStatement", "(LConfinementAnalyzer$State;)Z"⟩
abbrev cX5_isFull : ByteArray := prog_7_method_4_code
def yX5_isFull : MethodName := ⟨RX5, "isFull", "(LConfinementAnalyzer$State;I)Z"⟩
abbrev cX5_accepts : ByteArray := prog_7_method_5_code
def yX5_accepts : MethodName := ⟨RX5, "accepts", "(LConfinementAnalyzer$State;III)Z"⟩
abbrev cX5_perform : ByteArray := prog_7_method_6_code
def yX5_perform : MethodName := ⟨RX5, "perform", "(LConfinementAnalyzer$State;I)V"⟩
abbrev cX5_findStatement : ByteArray := prog_7_method_7_code
def yX5_findStatement : MethodName := ⟨RX5, "findStatement", "()I"⟩
abbrev cX5_tokenIs : ByteArray := prog_7_method_8_code
def yX5_tokenIs : MethodName := ⟨RX5, "tokenIs", "(Ljava/lang/String;)Z"⟩
abbrev cX5_numberValue : ByteArray := prog_7_method_9_code
def yX5_numberValue : MethodName := ⟨RX5, "numberValue", "()I"⟩
abbrev cX5_advance : ByteArray := prog_7_method_10_code
def yX5_advance : MethodName := ⟨RX5, "advance", "()V"⟩
abbrev cX5_typeOf : ByteArray := prog_7_method_11_code
def yX5_typeOf : MethodName := ⟨RX5, "typeOf", "(I)I"⟩
def RX6 : String := "ConfinementAnalyzer"
def TX6 : u_T := fun k => match k with
  | 0 => ("ConfinementAnalyzer", "text", "LConfinementAnalyzer$Text;", true)
  | 1 => ("ConfinementAnalyzer", "state", "LConfinementAnalyzer$State;", true)
  | 2 => ("ConfinementAnalyzer", "draft", "LConfinementAnalyzer$State;", true)
  | 3 => ("ConfinementAnalyzer", "history", "LConfinementAnalyzer$History;", true)
  | 4 => ("ConfinementAnalyzer", "roles", "LConfinementAnalyzer$Roles;", true)
  | 5 => ("ConfinementAnalyzer", "analysis", "LConfinementAnalyzer$Analysis;", true)
  | 6 => ("ConfinementAnalyzer", "coarse", "LConfinementAnalyzer$Closure;", true)
  | 7 => ("ConfinementAnalyzer", "trial", "LConfinementAnalyzer$Closure;", true)
  | _ => ("ConfinementAnalyzer", "analysed", "Z", false)
def tyX6 : Nat → FieldType := fun k => match k with
  | 0 => .object "ConfinementAnalyzer$Text"
  | 1 => .object "ConfinementAnalyzer$State"
  | 2 => .object "ConfinementAnalyzer$State"
  | 3 => .object "ConfinementAnalyzer$History"
  | 4 => .object "ConfinementAnalyzer$Roles"
  | 5 => .object "ConfinementAnalyzer$Analysis"
  | 6 => .object "ConfinementAnalyzer$Closure"
  | 7 => .object "ConfinementAnalyzer$Closure"
  | _ => .boolean
abbrev wsX60 : List Cond := u_ws RX6 TX6 9
theorem nmX6 : ∀ a, a < 9 → ∀ b, b < 9 → a ≠ b → (TX6 a).2.1 ≠ (TX6 b).2.1 := by decide +kernel
theorem tyX6_ok : ∀ k, k < 9 → parseFieldDescriptor (TX6 k).2.2.1 = some (tyX6 k) := by decide +kernel
abbrev cX6_init : ByteArray := prog_1_method_1_code
def yX6_init : MethodName := ⟨RX6, "<init>", "()V"⟩
abbrev cX6_append : ByteArray := prog_1_method_2_code
def yX6_append : MethodName := ⟨RX6, "append", "(I)I"⟩
abbrev cX6_clearText : ByteArray := prog_1_method_3_code
def yX6_clearText : MethodName := ⟨RX6, "clearText", "()I"⟩
abbrev cX6_load : ByteArray := prog_1_method_4_code
def yX6_load : MethodName := ⟨RX6, "load", "()I"⟩
abbrev cX6_objectCount : ByteArray := prog_1_method_5_code
def yX6_objectCount : MethodName := ⟨RX6, "objectCount", "()I"⟩
abbrev cX6_kind : ByteArray := prog_1_method_6_code
def yX6_kind : MethodName := ⟨RX6, "kind", "(I)I"⟩
abbrev cX6_behaviour : ByteArray := prog_1_method_7_code
def yX6_behaviour : MethodName := ⟨RX6, "behaviour", "(I)I"⟩
abbrev cX6_setBehaviour : ByteArray := prog_1_method_8_code
def yX6_setBehaviour : MethodName := ⟨RX6, "setBehaviour", "(II)I"⟩
abbrev cX6_setGroup : ByteArray := prog_1_method_9_code
def yX6_setGroup : MethodName := ⟨RX6, "setGroup", "(II)I"⟩
abbrev cX6_addReference : ByteArray := prog_1_method_10_code
def yX6_addReference : MethodName := ⟨RX6, "addReference", "(II)I"⟩
abbrev cX6_removeReference : ByteArray := prog_1_method_11_code
def yX6_removeReference : MethodName := ⟨RX6, "removeReference", "(I)I"⟩
abbrev cX6_referenceCount : ByteArray := prog_1_method_12_code
def yX6_referenceCount : MethodName := ⟨RX6, "referenceCount", "()I"⟩
abbrev cX6_mayHold : ByteArray := prog_1_method_13_code
def yX6_mayHold : MethodName := ⟨RX6, "mayHold", "(II)I"⟩
abbrev cX6_round : ByteArray := prog_1_method_14_code
def yX6_round : MethodName := ⟨RX6, "round", "(II)I"⟩
abbrev cX6_rule : ByteArray := prog_1_method_15_code
def yX6_rule : MethodName := ⟨RX6, "rule", "(II)I"⟩
abbrev cX6_partner : ByteArray := prog_1_method_16_code
def yX6_partner : MethodName := ⟨RX6, "partner", "(II)I"⟩
abbrev cX6_derivationSize : ByteArray := prog_1_method_17_code
def yX6_derivationSize : MethodName := ⟨RX6, "derivationSize", "(II)I"⟩
abbrev cX6_lastRound : ByteArray := prog_1_method_18_code
def yX6_lastRound : MethodName := ⟨RX6, "lastRound", "()I"⟩
abbrev cX6_coarselyMayHold : ByteArray := prog_1_method_19_code
def yX6_coarselyMayHold : MethodName := ⟨RX6, "coarselyMayHold", "(II)I"⟩
abbrev cX6_forbid : ByteArray := prog_1_method_20_code
def yX6_forbid : MethodName := ⟨RX6, "forbid", "(II)I"⟩
abbrev cX6_permit : ByteArray := prog_1_method_21_code
def yX6_permit : MethodName := ⟨RX6, "permit", "(II)I"⟩
abbrev cX6_violationCount : ByteArray := prog_1_method_22_code
def yX6_violationCount : MethodName := ⟨RX6, "violationCount", "()I"⟩
abbrev cX6_smallestRepair : ByteArray := prog_1_method_23_code
def yX6_smallestRepair : MethodName := ⟨RX6, "smallestRepair", "()I"⟩
abbrev cX6_give : ByteArray := prog_1_method_24_code
def yX6_give : MethodName := ⟨RX6, "give", "(III)I"⟩
abbrev cX6_take : ByteArray := prog_1_method_25_code
def yX6_take : MethodName := ⟨RX6, "take", "(III)I"⟩
abbrev cX6_open : ByteArray := prog_1_method_26_code
def yX6_open : MethodName := ⟨RX6, "open", "(III)I"⟩
abbrev cX6_create : ByteArray := prog_1_method_27_code
def yX6_create : MethodName := ⟨RX6, "create", "(II)I"⟩
abbrev cX6_restartRun : ByteArray := prog_1_method_28_code
def yX6_restartRun : MethodName := ⟨RX6, "restartRun", "()I"⟩
abbrev cX6_holdsInRun : ByteArray := prog_1_method_29_code
def yX6_holdsInRun : MethodName := ⟨RX6, "holdsInRun", "(II)I"⟩
abbrev cX6_undo : ByteArray := prog_1_method_30_code
def yX6_undo : MethodName := ⟨RX6, "undo", "()I"⟩
abbrev cX6_undoDepth : ByteArray := prog_1_method_31_code
def yX6_undoDepth : MethodName := ⟨RX6, "undoDepth", "()I"⟩
abbrev cX6_saveState : ByteArray := prog_1_method_32_code
def yX6_saveState : MethodName := ⟨RX6, "saveState", "()V"⟩
abbrev cX6_refreshAnalysis : ByteArray := prog_1_method_33_code
def yX6_refreshAnalysis : MethodName := ⟨RX6, "refreshAnalysis", "()V"⟩
abbrev cX6_findNeeded : ByteArray := prog_1_method_34_code
def yX6_findNeeded : MethodName := ⟨RX6, "findNeeded", "(I)I"⟩
abbrev cX6_isRepair : ByteArray := prog_1_method_35_code
def yX6_isRepair : MethodName := ⟨RX6, "isRepair", "(I)Z"⟩
abbrev cX6_bit : ByteArray := prog_1_method_36_code
def yX6_bit : MethodName := ⟨RX6, "bit", "(I)I"⟩
abbrev cX6_contains : ByteArray := prog_1_method_37_code
def yX6_contains : MethodName := ⟨RX6, "contains", "(II)Z"⟩
abbrev cX6_pair : ByteArray := prog_1_method_38_code
def yX6_pair : MethodName := ⟨RX6, "pair", "(II)I"⟩
abbrev cX6_lowest : ByteArray := prog_1_method_39_code
def yX6_lowest : MethodName := ⟨RX6, "lowest", "(I)I"⟩
def RX7 : String := "ConfinementAnalyzerModel"
def TX7 : u_T := fun k => match k with
  | 0 => ("ConfinementAnalyzerModel", "thrown", "I", false)
  | 1 => ("ConfinementAnalyzerModel", "s", "[I", true)
  | 2 => ("ConfinementAnalyzerModel", "draft", "[I", true)
  | 3 => ("ConfinementAnalyzerModel", "history", "[I", true)
  | 4 => ("ConfinementAnalyzerModel", "depth", "I", false)
  | 5 => ("ConfinementAnalyzerModel", "text", "[I", true)
  | 6 => ("ConfinementAnalyzerModel", "length", "I", false)
  | 7 => ("ConfinementAnalyzerModel", "next", "I", false)
  | 8 => ("ConfinementAnalyzerModel", "start", "I", false)
  | 9 => ("ConfinementAnalyzerModel", "token", "I", false)
  | 10 => ("ConfinementAnalyzerModel", "value", "I", false)
  | 11 => ("ConfinementAnalyzerModel", "error", "I", false)
  | 12 => ("ConfinementAnalyzerModel", "rounds", "[I", true)
  | 13 => ("ConfinementAnalyzerModel", "last", "I", false)
  | 14 => ("ConfinementAnalyzerModel", "isDerived", "[Z", true)
  | 15 => ("ConfinementAnalyzerModel", "derived", "[I", true)
  | _ => ("ConfinementAnalyzerModel", "derivedCount", "I", false)
def tyX7 : Nat → FieldType := fun k => match k with
  | 0 => .int
  | 1 => .array .int
  | 2 => .array .int
  | 3 => .array .int
  | 4 => .int
  | 5 => .array .int
  | 6 => .int
  | 7 => .int
  | 8 => .int
  | 9 => .int
  | 10 => .int
  | 11 => .int
  | 12 => .array .int
  | 13 => .int
  | 14 => .array .boolean
  | 15 => .array .int
  | _ => .int
abbrev wsX70 : List Cond := u_ws RX7 TX7 17
theorem nmX7 : ∀ a, a < 17 → ∀ b, b < 17 → a ≠ b → (TX7 a).2.1 ≠ (TX7 b).2.1 := by decide +kernel
theorem tyX7_ok : ∀ k, k < 17 → parseFieldDescriptor (TX7 k).2.2.1 = some (tyX7 k) := by decide +kernel
abbrev cX7_init : ByteArray := prog_9_method_1_code
def yX7_init : MethodName := ⟨RX7, "<init>", "()V"⟩
abbrev cX7_in : ByteArray := prog_9_method_3_code
def yX7_in : MethodName := ⟨RX7, "in", "(III)Z"⟩
abbrev cX7_has : ByteArray := prog_9_method_4_code
def yX7_has : MethodName := ⟨RX7, "has", "(II)Z"⟩
abbrev cX7_bitCount : ByteArray := prog_9_method_5_code
def yX7_bitCount : MethodName := ⟨RX7, "bitCount", "(I)I"⟩
abbrev cX7_characterAt : ByteArray := prog_9_method_6_code
def yX7_characterAt : MethodName := ⟨RX7, "characterAt", "(I)I"⟩
abbrev cX7_isLetter : ByteArray := prog_9_method_7_code
def yX7_isLetter : MethodName := ⟨RX7, "isLetter", "(II)Z"⟩
abbrev cX7_keyword : ByteArray := prog_9_method_8_code
def yX7_keyword : MethodName := ⟨RX7, "keyword", "()I"⟩
abbrev cX7_advance : ByteArray := prog_9_method_9_code
def yX7_advance : MethodName := ⟨RX7, "advance", "()V"⟩
abbrev cX7_isFine : ByteArray := prog_9_method_10_code
def yX7_isFine : MethodName := ⟨RX7, "isFine", "()Z"⟩
abbrev cX7_take : ByteArray := prog_9_method_11_code
def yX7_take : MethodName := ⟨RX7, "take", "(Z)I"⟩
abbrev cX7_number : ByteArray := prog_9_method_12_code
def yX7_number : MethodName := ⟨RX7, "number", "(I)I"⟩
abbrev cX7_readObject : ByteArray := prog_9_method_13_code
def yX7_readObject : MethodName := ⟨RX7, "readObject", "(I)V"⟩
abbrev cX7_isHolder : ByteArray := prog_9_method_14_code
def yX7_isHolder : MethodName := ⟨RX7, "isHolder", "([II)Z"⟩
abbrev cX7_indexOf : ByteArray := prog_9_method_15_code
def yX7_indexOf : MethodName := ⟨RX7, "indexOf", "([III)I"⟩
abbrev cX7_readHold : ByteArray := prog_9_method_16_code
def yX7_readHold : MethodName := ⟨RX7, "readHold", "()V"⟩
abbrev cX7_append : ByteArray := prog_9_method_17_code
def yX7_append : MethodName := ⟨RX7, "append", "(I)I"⟩
abbrev cX7_clearText : ByteArray := prog_9_method_18_code
def yX7_clearText : MethodName := ⟨RX7, "clearText", "()I"⟩
abbrev cX7_load : ByteArray := prog_9_method_19_code
def yX7_load : MethodName := ⟨RX7, "load", "()I"⟩
abbrev cX7_save : ByteArray := prog_9_method_20_code
def yX7_save : MethodName := ⟨RX7, "save", "()V"⟩
abbrev cX7_beginRun : ByteArray := prog_9_method_21_code
def yX7_beginRun : MethodName := ⟨RX7, "beginRun", "()V"⟩
abbrev cX7_isObject : ByteArray := prog_9_method_22_code
def yX7_isObject : MethodName := ⟨RX7, "isObject", "(I)Z"⟩
abbrev cX7_areObjects : ByteArray := prog_9_method_23_code
def yX7_areObjects : MethodName := ⟨RX7, "areObjects", "(II)Z"⟩
abbrev cX7_isOf : ByteArray := prog_9_method_24_code
def yX7_isOf : MethodName := ⟨RX7, "isOf", "(II)Z"⟩
abbrev cX7_does : ByteArray := prog_9_method_25_code
def yX7_does : MethodName := ⟨RX7, "does", "(II)Z"⟩
abbrev cX7_objectCount : ByteArray := prog_9_method_26_code
def yX7_objectCount : MethodName := ⟨RX7, "objectCount", "()I"⟩
abbrev cX7_kind : ByteArray := prog_9_method_27_code
def yX7_kind : MethodName := ⟨RX7, "kind", "(I)I"⟩
abbrev cX7_behaviour : ByteArray := prog_9_method_28_code
def yX7_behaviour : MethodName := ⟨RX7, "behaviour", "(I)I"⟩
abbrev cX7_change : ByteArray := prog_9_method_29_code
def yX7_change : MethodName := ⟨RX7, "change", "(II)I"⟩
abbrev cX7_setBehaviour : ByteArray := prog_9_method_30_code
def yX7_setBehaviour : MethodName := ⟨RX7, "setBehaviour", "(II)I"⟩
abbrev cX7_setGroup : ByteArray := prog_9_method_31_code
def yX7_setGroup : MethodName := ⟨RX7, "setGroup", "(II)I"⟩
abbrev cX7_addReference : ByteArray := prog_9_method_32_code
def yX7_addReference : MethodName := ⟨RX7, "addReference", "(II)I"⟩
abbrev cX7_removeReference : ByteArray := prog_9_method_33_code
def yX7_removeReference : MethodName := ⟨RX7, "removeReference", "(I)I"⟩
abbrev cX7_referenceCount : ByteArray := prog_9_method_34_code
def yX7_referenceCount : MethodName := ⟨RX7, "referenceCount", "()I"⟩
abbrev cX7_isFound : ByteArray := prog_9_method_35_code
def yX7_isFound : MethodName := ⟨RX7, "isFound", "(III)Z"⟩
abbrev cX7_giver : ByteArray := prog_9_method_36_code
def yX7_giver : MethodName := ⟨RX7, "giver", "(III)I"⟩
abbrev cX7_answerer : ByteArray := prog_9_method_37_code
def yX7_answerer : MethodName := ⟨RX7, "answerer", "(III)I"⟩
abbrev cX7_keyOf : ByteArray := prog_9_method_38_code
def yX7_keyOf : MethodName := ⟨RX7, "keyOf", "(III)I"⟩
abbrev cX7_openedBox : ByteArray := prog_9_method_39_code
def yX7_openedBox : MethodName := ⟨RX7, "openedBox", "(III)I"⟩
abbrev cX7_creator : ByteArray := prog_9_method_40_code
def yX7_creator : MethodName := ⟨RX7, "creator", "(III)I"⟩
abbrev cX7_userOf : ByteArray := prog_9_method_41_code
def yX7_userOf : MethodName := ⟨RX7, "userOf", "(II)I"⟩
abbrev cX7_endower : ByteArray := prog_9_method_42_code
def yX7_endower : MethodName := ⟨RX7, "endower", "(III)I"⟩
abbrev cX7_partnerBy : ByteArray := prog_9_method_43_code
def yX7_partnerBy : MethodName := ⟨RX7, "partnerBy", "(IIII)I"⟩
abbrev cX7_ruleFor : ByteArray := prog_9_method_44_code
def yX7_ruleFor : MethodName := ⟨RX7, "ruleFor", "(III)I"⟩
abbrev cX7_analyse : ByteArray := prog_9_method_45_code
def yX7_analyse : MethodName := ⟨RX7, "analyse", "(I)V"⟩
abbrev cX7_findRound : ByteArray := prog_9_method_46_code
def yX7_findRound : MethodName := ⟨RX7, "findRound", "(I)Z"⟩
abbrev cX7_roundOf : ByteArray := prog_9_method_47_code
def yX7_roundOf : MethodName := ⟨RX7, "roundOf", "(II)I"⟩
abbrev cX7_mayHold : ByteArray := prog_9_method_48_code
def yX7_mayHold : MethodName := ⟨RX7, "mayHold", "(II)I"⟩
abbrev cX7_round : ByteArray := prog_9_method_49_code
def yX7_round : MethodName := ⟨RX7, "round", "(II)I"⟩
abbrev cX7_rule : ByteArray := prog_9_method_50_code
def yX7_rule : MethodName := ⟨RX7, "rule", "(II)I"⟩
abbrev cX7_partner : ByteArray := prog_9_method_51_code
def yX7_partner : MethodName := ⟨RX7, "partner", "(II)I"⟩
abbrev cX7_derive : ByteArray := prog_9_method_52_code
def yX7_derive : MethodName := ⟨RX7, "derive", "(II)V"⟩
abbrev cX7_derivePremises : ByteArray := prog_9_method_53_code
def yX7_derivePremises : MethodName := ⟨RX7, "derivePremises", "(II)V"⟩
abbrev cX7_derivationSize : ByteArray := prog_9_method_54_code
def yX7_derivationSize : MethodName := ⟨RX7, "derivationSize", "(II)I"⟩
abbrev cX7_lastRound : ByteArray := prog_9_method_55_code
def yX7_lastRound : MethodName := ⟨RX7, "lastRound", "()I"⟩
abbrev cX7_merge : ByteArray := prog_9_method_56_code
def yX7_merge : MethodName := ⟨RX7, "merge", "()Z"⟩
abbrev cX7_mergeGroups : ByteArray := prog_9_method_57_code
def yX7_mergeGroups : MethodName := ⟨RX7, "mergeGroups", "(II)Z"⟩
abbrev cX7_coarselyMayHold : ByteArray := prog_9_method_58_code
def yX7_coarselyMayHold : MethodName := ⟨RX7, "coarselyMayHold", "(II)I"⟩
abbrev cX7_requirementOf : ByteArray := prog_9_method_59_code
def yX7_requirementOf : MethodName := ⟨RX7, "requirementOf", "(II)I"⟩
abbrev cX7_forbid : ByteArray := prog_9_method_60_code
def yX7_forbid : MethodName := ⟨RX7, "forbid", "(II)I"⟩
abbrev cX7_permit : ByteArray := prog_9_method_61_code
def yX7_permit : MethodName := ⟨RX7, "permit", "(II)I"⟩
abbrev cX7_violations : ByteArray := prog_9_method_62_code
def yX7_violations : MethodName := ⟨RX7, "violations", "()I"⟩
abbrev cX7_violationCount : ByteArray := prog_9_method_63_code
def yX7_violationCount : MethodName := ⟨RX7, "violationCount", "()I"⟩
abbrev cX7_smallestRepair : ByteArray := prog_9_method_64_code
def yX7_smallestRepair : MethodName := ⟨RX7, "smallestRepair", "()I"⟩
abbrev cX7_holds : ByteArray := prog_9_method_65_code
def yX7_holds : MethodName := ⟨RX7, "holds", "(II)Z"⟩
abbrev cX7_saveAndHold : ByteArray := prog_9_method_66_code
def yX7_saveAndHold : MethodName := ⟨RX7, "saveAndHold", "(II)I"⟩
abbrev cX7_give : ByteArray := prog_9_method_67_code
def yX7_give : MethodName := ⟨RX7, "give", "(III)I"⟩
abbrev cX7_take_ : ByteArray := prog_9_method_68_code
def yX7_take_ : MethodName := ⟨RX7, "take", "(III)I"⟩
abbrev cX7_open : ByteArray := prog_9_method_69_code
def yX7_open : MethodName := ⟨RX7, "open", "(III)I"⟩
abbrev cX7_create : ByteArray := prog_9_method_70_code
def yX7_create : MethodName := ⟨RX7, "create", "(II)I"⟩
abbrev cX7_restartRun : ByteArray := prog_9_method_71_code
def yX7_restartRun : MethodName := ⟨RX7, "restartRun", "()I"⟩
abbrev cX7_holdsInRun : ByteArray := prog_9_method_72_code
def yX7_holdsInRun : MethodName := ⟨RX7, "holdsInRun", "(II)I"⟩
abbrev cX7_undo : ByteArray := prog_9_method_73_code
def yX7_undo : MethodName := ⟨RX7, "undo", "()I"⟩
abbrev cX7_undoDepth : ByteArray := prog_9_method_74_code
def yX7_undoDepth : MethodName := ⟨RX7, "undoDepth", "()I"⟩
def RJ6 : String := "java/lang/Integer"
def TJ6 : u_T := fun k => match k with
  | _ => ("", "", "", false)
def tyJ6 : Nat → FieldType := fun k => match k with
  | _ => .int
abbrev wsJ60 : List Cond := u_ws RJ6 TJ6 0
theorem nmJ6 : ∀ a, a < 0 → ∀ b, b < 0 → a ≠ b → (TJ6 a).2.1 ≠ (TJ6 b).2.1 := by decide +kernel
theorem tyJ6_ok : ∀ k, k < 0 → parseFieldDescriptor (TJ6 k).2.2.1 = some (tyJ6 k) := by decide +kernel
abbrev cJ6_bitCount_0f7a4 : ByteArray := prog_10_method_49_code
def yJ6_bitCount_0f7a4 : MethodName := ⟨RJ6, "bitCount", "(I)I"⟩
def RJ9 : String := "java/lang/Math"
def TJ9 : u_T := fun k => match k with
  | _ => ("", "", "", false)
def tyJ9 : Nat → FieldType := fun k => match k with
  | _ => .int
abbrev wsJ90 : List Cond := u_ws RJ9 TJ9 0
theorem nmJ9 : ∀ a, a < 0 → ∀ b, b < 0 → a ≠ b → (TJ9 a).2.1 ≠ (TJ9 b).2.1 := by decide +kernel
theorem tyJ9_ok : ∀ k, k < 0 → parseFieldDescriptor (TJ9 k).2.2.1 = some (tyJ9 k) := by decide +kernel
abbrev cJ9_min_7cf53 : ByteArray := prog_11_method_69_code
def yJ9_min_7cf53 : MethodName := ⟨RJ9, "min", "(II)I"⟩
def RJ0 : String := "java/lang/String"
def TJ0 : u_T := fun k => match k with
  | _ => ("", "", "", false)
def tyJ0 : Nat → FieldType := fun k => match k with
  | _ => .int
abbrev wsJ00 : List Cond := u_ws RJ0 TJ0 0
theorem nmJ0 : ∀ a, a < 0 → ∀ b, b < 0 → a ≠ b → (TJ0 a).2.1 ≠ (TJ0 b).2.1 := by decide +kernel
theorem tyJ0_ok : ∀ k, k < 0 → parseFieldDescriptor (TJ0 k).2.2.1 = some (tyJ0 k) := by decide +kernel
abbrev cJ0_length_8abf5 : ByteArray := prog_12_method_54_code
def yJ0_length_8abf5 : MethodName := ⟨RJ0, "length", "()I"⟩
abbrev cJ0_charAt_5068e : ByteArray := prog_12_method_56_code
def yJ0_charAt_5068e : MethodName := ⟨RJ0, "charAt", "(I)C"⟩
abbrev cJ0_coder_7d493 : ByteArray := prog_12_method_152_code
def yJ0_coder_7d493 : MethodName := ⟨RJ0, "coder", "()B"⟩
abbrev cJ0_isLatin1_aae02 : ByteArray := prog_12_method_154_code
def yJ0_isLatin1_aae02 : MethodName := ⟨RJ0, "isLatin1", "()Z"⟩
abbrev cJ0_checkIndex_df160 : ByteArray := prog_12_method_155_code
def yJ0_checkIndex_df160 : MethodName := ⟨RJ0, "checkIndex", "(II)V"⟩
def RJ1 : String := "java/lang/StringLatin1"
def TJ1 : u_T := fun k => match k with
  | _ => ("", "", "", false)
def tyJ1 : Nat → FieldType := fun k => match k with
  | _ => .int
abbrev wsJ10 : List Cond := u_ws RJ1 TJ1 0
theorem nmJ1 : ∀ a, a < 0 → ∀ b, b < 0 → a ≠ b → (TJ1 a).2.1 ≠ (TJ1 b).2.1 := by decide +kernel
theorem tyJ1_ok : ∀ k, k < 0 → parseFieldDescriptor (TJ1 k).2.2.1 = some (tyJ1 k) := by decide +kernel
abbrev cJ1_charAt_3b067 : ByteArray := prog_13_method_2_code
def yJ1_charAt_3b067 : MethodName := ⟨RJ1, "charAt", "([BI)C"⟩
def RJ2 : String := "java/lang/StringUTF16"
def TJ2 : u_T := fun k => match k with
  | _ => ("", "", "", false)
def tyJ2 : Nat → FieldType := fun k => match k with
  | _ => .int
abbrev wsJ20 : List Cond := u_ws RJ2 TJ2 0
theorem nmJ2 : ∀ a, a < 0 → ∀ b, b < 0 → a ≠ b → (TJ2 a).2.1 ≠ (TJ2 b).2.1 := by decide +kernel
theorem tyJ2_ok : ∀ k, k < 0 → parseFieldDescriptor (TJ2 k).2.2.1 = some (tyJ2 k) := by decide +kernel
abbrev cJ2_getChar_3b067 : ByteArray := prog_14_method_5_code
def yJ2_getChar_3b067 : MethodName := ⟨RJ2, "getChar", "([BI)C"⟩
abbrev cJ2_length_9d52b : ByteArray := prog_14_method_6_code
def yJ2_length_9d52b : MethodName := ⟨RJ2, "length", "([B)I"⟩
abbrev cJ2_charAt_3b067 : ByteArray := prog_14_method_83_code
def yJ2_charAt_3b067 : MethodName := ⟨RJ2, "charAt", "([BI)C"⟩
abbrev cJ2_checkIndex_2214a : ByteArray := prog_14_method_91_code
def yJ2_checkIndex_2214a : MethodName := ⟨RJ2, "checkIndex", "(I[B)V"⟩
def RJ10 : String := "java/lang/System"
def TJ10 : u_T := fun k => match k with
  | _ => ("", "", "", false)
def tyJ10 : Nat → FieldType := fun k => match k with
  | _ => .int
abbrev wsJ100 : List Cond := u_ws RJ10 TJ10 0
theorem nmJ10 : ∀ a, a < 0 → ∀ b, b < 0 → a ≠ b → (TJ10 a).2.1 ≠ (TJ10 b).2.1 := by decide +kernel
theorem tyJ10_ok : ∀ k, k < 0 → parseFieldDescriptor (TJ10 k).2.2.1 = some (tyJ10 k) := by decide +kernel
def RJ7 : String := "java/util/Arrays"
def TJ7 : u_T := fun k => match k with
  | _ => ("", "", "", false)
def tyJ7 : Nat → FieldType := fun k => match k with
  | _ => .int
abbrev wsJ70 : List Cond := u_ws RJ7 TJ7 0
theorem nmJ7 : ∀ a, a < 0 → ∀ b, b < 0 → a ≠ b → (TJ7 a).2.1 ≠ (TJ7 b).2.1 := by decide +kernel
theorem tyJ7_ok : ∀ k, k < 0 → parseFieldDescriptor (TJ7 k).2.2.1 = some (tyJ7 k) := by decide +kernel
abbrev cJ7_fill_53178 : ByteArray := prog_16_method_103_code
def yJ7_fill_53178 : MethodName := ⟨RJ7, "fill", "([II)V"⟩
def RJ3 : String := "jdk/internal/util/Preconditions"
def TJ3 : u_T := fun k => match k with
  | _ => ("", "", "", false)
def tyJ3 : Nat → FieldType := fun k => match k with
  | _ => .int
abbrev wsJ30 : List Cond := u_ws RJ3 TJ3 0
theorem nmJ3 : ∀ a, a < 0 → ∀ b, b < 0 → a ≠ b → (TJ3 a).2.1 ≠ (TJ3 b).2.1 := by decide +kernel
theorem tyJ3_ok : ∀ k, k < 0 → parseFieldDescriptor (TJ3 k).2.2.1 = some (tyJ3 k) := by decide +kernel
abbrev cJ3_checkIndex_8e157 : ByteArray := prog_17_method_11_code
def yJ3_checkIndex_8e157 : MethodName := ⟨RJ3, "checkIndex", "(IILjava/util/function/BiFunction;)I"⟩
def RL : String := "ConfinementAnalyzerLaw"
abbrev cL_law : ByteArray := code
def yL_law : MethodName := ⟨RL, "law", "([I)Z"⟩
abbrev vwCl : List vw_C := [(RX0, TX0, 11), (RX1, TX1, 2), (RX2, TX2, 3), (RX3, TX3, 12), (RX4, TX4, 12), (RX5, TX5, 6), (RX6, TX6, 9), (RX7, TX7, 17)]
end
section
/-! A thin layer over the kit: one fixed world of 104 cells, its contents a function g (cell, place -> int); AW: from here the method comes to its end with P; Runs: a call of a method comes to its end with P. -/
abbrev AV : Type := Int32 ⊕ Nat
abbrev Mem : Type := Nat → Nat → Int32
abbrev Gam : Type := Launch × (Nat → ClassId) × (Nat → Nat → Nat) × (Nat → Nat) × (Nat → ClassId) × (Nat → Nat) × (Nat → Nat)
abbrev Mi : Type := ByteArray × String × Nat × Option FieldType
abbrev Shp : Type := (Nat × List (Option Nat)) ⊕ (Nat × Nat) ⊕ List Nat
def shS (b : Nat) : List Shp := [.inl (4, [none, some (b + 1), some (b + 2), some (b + 3), some (b + 4), none, some (b + 5), some (b + 6), none, some (b + 7), some (b + 8), some (b + 9)]), .inr (.inl (0, 10)), .inr (.inl (0, 10)), .inr (.inl (0, 10)), .inr (.inl (0, 10)), .inr (.inl (0, 10)), .inr (.inl (0, 10)), .inr (.inl (0, 4)), .inr (.inl (0, 4)), .inr (.inl (0, 10))]
/-- what each cell is: an object (its place in vwCl; for each field the cell that it refers to, or none for a number), an array of ints (0) or booleans (1), an array of references -/
def shL : List Shp := [
  .inl (6, [some 1, some 34, some 44, some 4, some 6, some 12, some 22, some 24, none]),
  .inl (5, [some 2, none, none, none, none, some 3]), .inr (.inl (0, 160)), .inr (.inl (0, 3)),
  .inl (2, [some 5, none, none]), .inr (.inr [54, 64, 74, 84, 94]),
  .inl (3, [none, none, none, none, none, none, none, some 7, some 8, some 9, some 10, some 11]), .inr (.inl (0, 10)), .inr (.inl (0, 10)), .inr (.inl (0, 10)), .inr (.inl (0, 10)), .inr (.inl (0, 10)),
  .inl (0, [some 13, some 14, some 15, some 16, some 17, some 18, some 19, none, some 20, some 21, none]), .inr (.inl (0, 10)), .inr (.inl (0, 10)), .inr (.inl (0, 100)), .inr (.inl (0, 100)), .inr (.inl (0, 100)), .inr (.inl (0, 100)), .inr (.inl (0, 100)), .inr (.inl (0, 100)), .inr (.inl (0, 100)),
  .inl (1, [some 23, none]), .inr (.inl (0, 10)),
  .inl (1, [some 25, none]), .inr (.inl (0, 10)),
  .inl (7, [none, some 27, some 28, some 29, none, some 30, none, none, none, none, none, none, some 31, none, some 32, some 33, none]),
  .inr (.inl (0, 81)), .inr (.inl (0, 81)), .inr (.inl (0, 405)), .inr (.inl (0, 160)), .inr (.inl (0, 100)), .inr (.inl (1, 100)), .inr (.inl (0, 100))] ++ shS 34 ++ shS 44 ++ shS 54 ++ shS 64 ++ shS 74 ++ shS 84 ++ shS 94
def shp (k : Nat) : Shp := shL.getD k (.inr (.inr []))
def avV (ad : Nat → Nat) (v : AV) : Value := match v with
  | .inl x => .int x
  | .inr k => .ref (ad k)
def fv1 (ad : Nat → Nat) (f : Nat → Int32) (j : Nat) (t : Option Nat) : Value := match t with
  | none => .int (f j)
  | some q => .ref (ad q)
def fldV (ad : Nat → Nat) (f : Nat → Int32) (fl : List (Option Nat)) : List Value := fl.zipIdx.map (fun q => fv1 ad f q.2 q.1)
def cellE (Γ : Gam) (k : Nat) (g : Mem) : va_E := match shp k with
  | .inl q => .inr (q.1, fldV Γ.2.2.2.1 (g k) q.2)
  | .inr (.inl q) => .inl (Γ.2.2.2.2.1 q.1, q.2, .inl (g k))
  | .inr (.inr L) => .inl (Γ.2.2.2.2.1 2, L.length, .inr (.inr (.inr (.inr (fun j => (L[j]?).map Γ.2.2.2.1)))))
def wd (Γ : Gam) (g : Mem) : va_W := (List.range 104).map (fun k => (Γ.2.2.2.1 k, cellE Γ k g))
abbrev dd (Γ : Gam) : va_G := (Γ.2.1, Γ.2.2.1)
def tys3 (Γ : Gam) : List (ClassId × FieldType) := [(Γ.2.2.2.2.1 0, .int), (Γ.2.2.2.2.1 1, .boolean), (Γ.2.2.2.2.1 2, .object "ConfinementAnalyzer$State")]
def fr (Γ : Gam) : Nat → Prop := fun q => ∃ k, k < 104 ∧ q = Γ.2.2.2.1 k
def up (g : Mem) (k i : Nat) (v : Int32) : Mem := fun a => if a = k then upd (g k) i v else g a
theorem up_same (g : Mem) (k i : Nat) (v : Int32) : up g k i v k = upd (g k) i v := by simp [up]
theorem up_ne {g : Mem} {k i a : Nat} {v : Int32} (h : a ≠ k) : up g k i v a = g a := by simp [up, h]
theorem wd_at {Γ : Gam} {g : Mem} {k : Nat} (h : k < 104) : (wd Γ g)[k]? = some (Γ.2.2.2.1 k, cellE Γ k g) := by
  simp [wd, h]
theorem wd_len {Γ : Gam} {g : Mem} : (wd Γ g).length = 104 := by simp [wd]
theorem cellE_ext {Γ : Gam} {g g' : Mem} {k : Nat} (h : g' k = g k) : cellE Γ k g' = cellE Γ k g := by
  unfold cellE
  rw [h]
theorem wd_set {Γ : Gam} {g g' : Mem} {k : Nat} {e : va_E} (hk : k < 104) (he : cellE Γ k g' = e) (ho : ∀ j, j ≠ k → g' j = g j) : (wd Γ g).set k (Γ.2.2.2.1 k, e) = wd Γ g' := by
  apply List.ext_getElem?
  intro j
  by_cases hj : j = k
  · subst hj
    rw [List.getElem?_set_self (by rw [wd_len]; exact hk), wd_at hk, he]
  · rw [List.getElem?_set_ne (Ne.symm hj)]
    by_cases h2 : j < 104
    · rw [wd_at h2, wd_at h2, cellE_ext (ho j hj)]
    · rw [List.getElem?_eq_none (by rw [wd_len]; omega), List.getElem?_eq_none (by rw [wd_len]; omega)]
theorem fldV_at {ad : Nat → Nat} {f : Nat → Int32} {fl : List (Option Nat)} {j : Nat} {t : Option Nat} (h : fl[j]? = some t) : (fldV ad f fl)[j]? = some (fv1 ad f j t) := by
  simp [fldV, List.getElem?_map, List.getElem?_zipIdx, h]
theorem fldV_set {ad : Nat → Nat} {f : Nat → Int32} {fl : List (Option Nat)} {j : Nat} {x : Int32} (h : fl[j]? = some none) : (fldV ad f fl).set j (.int x) = fldV ad (upd f j x) fl := by
  apply List.ext_getElem?
  intro i
  by_cases hi : i = j
  · subst hi
    have hl : i < (fldV ad f fl).length := by
      have := (List.getElem?_eq_some_iff.mp h).1
      simpa [fldV] using this
    rw [List.getElem?_set_self hl, fldV_at h]
    simp [fv1, upd]
  · rw [List.getElem?_set_ne (Ne.symm hi)]
    cases ht : fl[i]? with
    | none =>
      simp [fldV, List.getElem?_map, List.getElem?_zipIdx, ht]
    | some t =>
      rw [fldV_at ht, fldV_at ht]
      cases t <;> simp [fv1, upd, hi]
/-- the strings' lengths and bytes, in the order of their uses -/
def sLen : List Nat := [5, 3, 3, 7, 4]
def sByt : List (List Int32) := [[97, 103, 101, 110, 116], [98, 111, 120], [107, 101, 121], [102, 97, 99, 116, 111, 114, 121], [104, 111, 108, 100]]
def sIdx : List (Nat × String) := [(90, "agent"), (96, "box"), (98, "key"), (100, "factory"), (102, "hold")]
def StrOk (Γ : Gam) (U : State) (H : Heap) : Prop := vk_S 5 sLen sByt Γ.2.2.2.2.2.1 Γ.2.2.2.2.2.2 (fr Γ) U H ∧ (∀ i q, sIdx[i]? = some q → vk_R RX5 q.1 q.2 (Γ.2.2.2.2.2.1 i) U) ∧ va_Z "java/lang/String" "COMPACT_STRINGS" "Z" (.int 1) (fr Γ) U H ∧ va_Zq "jdk/internal/util/Preconditions" "SIOOBE_FORMATTER" "Ljava/util/function/BiFunction;" (fr Γ) U H ∧ ∀ i, Γ.2.2.2.1 (200 + i) = Γ.2.2.2.2.2.1 i
def GW : List Cond := lw_tbl.filter goodWord
theorem gw_good {w : Cond} (h : w ∈ GW) : (w.onTables && w.keeps) = true ∨ ∃ ty, w = .arrayClass ty := good_of_word (List.mem_filter.mp h).2
theorem gw_of {w : Cond} (i : Nat) (h : lw_tbl[i]? = some w) (hg : goodWord w = true) : w ∈ GW := List.mem_filter.mpr ⟨List.mem_of_getElem? h, hg⟩
theorem gw_all (ws : List Cond) (ps : List Nat) (hp : ps.map (fun i => lw_tbl[i]?) = ws.map some) (h : ws.all goodWord = true) : ∀ w ∈ ws, w ∈ GW := by
  intro w hw
  have h1 : some w ∈ ws.map some := List.mem_map.mpr ⟨w, hw, rfl⟩
  rw [← hp] at h1
  obtain ⟨i, -, hi⟩ := List.mem_map.mp h1
  exact gw_of i hi (List.all_eq_true.mp h w hw)
/-- the calls over a nest: who calls, the place, the method, the host -/
def NWok (U : State) (L : List (String × Nat × MethodName × String)) : Prop := ∀ q ∈ L, va_Nw (.methodLinkNest q.1 q.2.1 q.2.2.1 q.2.2.2) U
def nestL : List (String × Nat × MethodName × String) := lw_tbl.filterMap (fun w => match w with
  | .methodLinkNest a i y h => some (a, i, y, h)
  | _ => none)
def Tb (Γ : Gam) (U : State) (H : Heap) : Prop := va_K (dd Γ) vwCl (tys3 Γ) U ∧ NWok U nestL ∧ StrOk Γ U H ∧ ∀ i j, i < 104 → j < 104 → Γ.2.2.2.1 i = Γ.2.2.2.1 j → i = j
theorem StrOk.kept {Γ : Gam} {U : State} {H H1 : Heap} (h : StrOk Γ U H) (hq : ∀ a : Nat, a < H.size → ¬ fr Γ a → H1[a]? = H[a]?) : StrOk Γ U H1 := ⟨h.1.kept hq, h.2.1, h.2.2.1.kept hq, h.2.2.2.1.kept hq, h.2.2.2.2⟩
theorem StrOk.warm {Γ : Gam} {s U : State} {H : Heap} (hW : s.WarmedH U.vm) (h : StrOk Γ s H) : StrOk Γ U H := ⟨h.1.moved hW.alike, fun i q hq => (h.2.1 i q hq).warm hW, h.2.2.1.moved hW.alike, h.2.2.2.1.moved hW.alike, h.2.2.2.2⟩
theorem Tb.warm {Γ : Gam} {s U : State} {H H1 : Heap} (hW : s.WarmedH U.vm) (h : Tb Γ s H) (hq : ∀ a : Nat, a < H.size → ¬ fr Γ a → H1[a]? = H[a]?) : Tb Γ U H1 := ⟨va_K.moved hW.alike h.1, fun q hm => (h.2.1 q hm).warmM hW, (h.2.2.1.warm hW).kept hq, h.2.2.2⟩
theorem Tb.same {Γ : Gam} {u U : State} {H : Heap} (hv : U.vm = u.vm) (h : Tb Γ u H) : Tb Γ U H := by
  have ha : u.vm.Alike U.vm := by rw [hv]; exact Vm.Alike.refl u.vm
  exact ⟨va_K.moved ha h.1, fun q hm => va_Nw.same rfl hv.symm (h.2.1 q hm), ⟨h.2.2.1.1.moved ha, fun i q hq => (h.2.2.1.2.1 i q hq).same hv, h.2.2.1.2.2.1.moved ha, h.2.2.1.2.2.2.1.moved ha, h.2.2.1.2.2.2.2⟩, h.2.2.2⟩
theorem wd_D {Γ : Gam} {U : State} {H : Heap} (h : Tb Γ U H) (g : Mem) : va_D (fr Γ) (wd Γ g) := by
  have at' : ∀ (k : Nat) (q : Nat × va_E), (wd Γ g)[k]? = some q → k < 104 ∧ q.1 = Γ.2.2.2.1 k := by
    intro k q hk
    have hl : k < 104 := by
      have := (List.getElem?_eq_some_iff.mp hk).1
      rwa [wd_len] at this
    rw [wd_at hl] at hk
    cases hk
    exact ⟨hl, rfl⟩
  refine ⟨fun i j p q hi hj hpq => ?_, fun k q hk => ?_⟩
  · obtain ⟨h1, h2⟩ := at' i p hi
    obtain ⟨h3, h4⟩ := at' j q hj
    exact h.2.2.2 i j h1 h3 (by rw [← h2, ← h4, hpq])
  · obtain ⟨h1, h2⟩ := at' k q hk
    exact ⟨k, h1, h2⟩
def rmD (D : Nat) : Room := { frames := D, cells := 0, slots := 0, locals := 39 * D }
def BG (Γ : Gam) : Mem → State → Prop := fun g t => va_P (dd Γ) vwCl (wd Γ g) t.heap
def QcG (Γ : Gam) (ret : Option FieldType) (P : Int32 → Mem → Prop) : Array Value → State → Outcome → State → Prop := match ret with
  | none => va_Qv (fun g' => P 0 g') (BG Γ) (fr Γ)
  | some _ => va_Qi P (BG Γ) (fr Γ)
def lget (ls : List (Option AV)) (i : Nat) : Option AV := match ls[i]? with
  | some o => o
  | none => none
def LsOk (Γ : Gam) (lsA : Array Slot) (nL : Nat) (ls : List (Option AV)) : Prop := lsA.size = nL ∧ lv_wf lsA ∧ ∀ i v, lget ls i = some v → lsA[i]? = some (.val (avV Γ.2.2.2.1 v))
def Ok (Γ : Gam) (I : Mi) (p : Program) (s : State) (m : MethodId) (args : Array Value) (meth : Method) (c : Code) : Prop := p.tables.exec = Jvm.exec ∧ c.code = I.1 ∧ meth.sig.returnType = I.2.2.2 ∧ c.maxLocals = I.2.2.1 ∧ s.vm.findClass I.2.1 = some m.cls ∧ (∀ w ∈ GW, w.before args s = true) ∧ meth.locks = false ∧ Tb Γ s s.heap
def AW (Γ : Gam) (D : Nat) (I : Mi) (P : Int32 → Mem → Prop) (pc : Nat) (ls : List (Option AV)) (st : List AV) (g : Mem) : Prop :=
  ∀ (p : Program) (e : Env) (s : State) (m : MethodId) (args : Array Value) (below : List Frame) (meth : Method) (c : Code), Ok Γ I p s m args meth c → ∀ (H : Heap) (locs : List Loc) (lsA : Array Slot), va_P (dd Γ) vwCl (wd Γ g) H → va_S (fr Γ) s.heap H locs → LsOk Γ lsA I.2.2.1 ls →
    W p Γ.1 e (rmD D) s m args below meth c H locs 0 0 (MQ below (QcG Γ I.2.2.2 P) args s 0 0 (fr Γ)) (F0 m pc lsA (st.map (avV Γ.2.2.2.1)))
def PcG (Γ : Gam) (as : List AV) (g : Mem) : Array Value → State → Prop := va_Pc (as.map (avV Γ.2.2.2.1)) (fun U => va_P (dd Γ) vwCl (wd Γ g) U.heap ∧ Tb Γ U U.heap)
def wsG (y : MethodName) (I : Mi) : List Cond := .code y I.1 I.2.2.1 I.2.2.2 :: GW
def Runs (Γ : Gam) (D : Nat) (y : MethodName) (I : Mi) (as : List AV) (g : Mem) (P : Int32 → Mem → Prop) : Prop := Met Γ.1 y (wsG y I) (rmD D) (PcG Γ as g) (QcG Γ I.2.2.2 P) 0 0 (fr Γ)
theorem PcG.blind {Γ : Gam} {as : List AV} {g : Mem} : FrameBlind (PcG Γ as g) := by
  intro a U g' mk h
  obtain ⟨h1, h2, h3⟩ := h
  exact ⟨h1, h2, Tb.same (u := U) rfl h3⟩
theorem avV_cat (ad : Nat → Nat) (v : AV) : (avV ad v).category = 1 := by cases v <;> rfl
theorem cat_sum (ad : Nat → Nat) : ∀ st : List AV, ((st.map (avV ad)).map fun v => v.category).sum = st.length
  | [] => rfl
  | v :: st => by
    have := cat_sum ad st
    simp only [List.map_cons, List.sum_cons, List.length_cons, avV_cat]
    omega
theorem lg_cat1 (ad : Nat → Nat) : ∀ vs : List AV, lg_sl (vs.map (avV ad)) = vs.map (fun v => Slot.val (avV ad v))
  | [] => rfl
  | v :: vs => by
    have h := lg_cat1 ad vs
    unfold lg_sl at h ⊢
    rw [List.map_cons, List.flatMap_cons, h, List.map_cons, if_neg (by rw [avV_cat]; decide)]
    rfl
theorem lvargs1 (ad : Nat → Nat) : ∀ (vs : List AV) (n i : Nat) (v : AV), lget (vs.map some) i = some v → (n + i, avV ad v) ∈ lv_args n (vs.map (avV ad))
  | [], n, i, v, h => by simp [lget] at h
  | w :: vs, n, i, v, h => by
    rw [List.map_cons, lv_args]
    cases i with
    | zero =>
      simp [lget] at h
      subst h
      exact List.mem_cons_self
    | succ i =>
      have h2 : lget (vs.map some) i = some v := by simpa [lget] using h
      have := lvargs1 ad vs (n + 1) i v h2
      rw [if_neg (by rw [avV_cat]; decide)]
      rw [show n + (i + 1) = n + 1 + i by omega]
      exact List.mem_cons_of_mem _ this
theorem Runs.intro {Γ : Gam} {D : Nat} {y : MethodName} {I : Mi} {as : List AV} {g : Mem} {P : Int32 → Mem → Prop} (hy : plainName y.cls = true) (ho : I.2.1 = y.cls) (hn : as.length ≤ I.2.2.1) (K : AW Γ D I P 0 (as.map some) [] g) : Runs Γ D y I as g P := by
  refine Met.ofW (cc := I.1) (maxL := I.2.2.1) (ret := I.2.2.2) hy rfl ?_
  intro p e s m args below meth c s₁ B hml hv
  obtain ⟨rfl, hP, hT⟩ := hv
  have hts := atoms_spec (ws := wsG y I) B.pre
  have hown : s.vm.findClass y.cls = some m.cls := findClass_of_methodNamed B.named
  have hlen : (lg_sl (as.map (avV Γ.2.2.2.1))).length ≤ I.2.2.1 := by rw [lg_cat1]; simpa using hn
  have hl := lv_entry (as.map (avV Γ.2.2.2.1)) (n := I.2.2.1) hlen
  rw [lg_entry_eq]
  refine K p e s m _ below meth c ⟨B.exec, B.bytes, B.returns, hml, by rw [ho]; exact hown, fun w hw => hts w (List.mem_cons_of_mem _ hw), B.notSynchronized, hT⟩ s.heap [] _ hP va_S.rf ⟨hl.1, hl.2.1, fun i v h => ?_⟩
  have := lvargs1 Γ.2.2.2.1 as 0 i v h
  have h2 := hl.2.2 _ this
  rw [Nat.zero_add] at h2
  exact h2
theorem QcG.mono {Γ : Gam} {ret : Option FieldType} {P P' : Int32 → Mem → Prop} (h : ∀ r g', P r g' → P' r g') {a : Array Value} {st t : State} {o : Outcome} (q : QcG Γ ret P a st o t) : QcG Γ ret P' a st o t := by
  cases ret with
  | none =>
    obtain ⟨⟨u, h1, h2, h3⟩, h4⟩ := q
    exact ⟨⟨u, h1, h _ _ h2, h3⟩, h4⟩
  | some ty =>
    obtain ⟨⟨r, u, h1, h2, h3⟩, h4⟩ := q
    exact ⟨⟨r, u, h1, h _ _ h2, h3⟩, h4⟩
end
section
/-! The layer's rows: an instruction, a row. -/
theorem Runs.mono {Γ : Gam} {D : Nat} {y : MethodName} {I : Mi} {as : List AV} {g : Mem} {P P' : Int32 → Mem → Prop} (h : Runs Γ D y I as g P) (hp : ∀ r g', P r g' → P' r g') : Runs Γ D y I as g P' := by
  intro p e ha hc hk s m args below hf happ hP hK
  obtain ⟨n, o, h1, h2, h3, hq, hL⟩ := h p e ha hc hk s m args below hf happ hP hK
  exact ⟨n, o, h1, h2, h3, hq.mono hp, hL⟩
theorem Runs.fn {Γ : Gam} {D : Nat} {y : MethodName} {I : Mi} {as : List AV} {g g1 : Mem} {r1 : Int32} {P : Int32 → Mem → Prop} (h : Runs Γ D y I as g (fun r g' => r = r1 ∧ g' = g1)) (hp : P r1 g1) : Runs Γ D y I as g P := h.mono (fun r g' q => by rw [q.1, q.2]; exact hp)
def aAt (k : Nat) : Option (Nat × Nat) := match shp k with
  | .inr (.inl q) => some q
  | _ => none
def fAt (k j : Nat) : Option (Nat × Option Nat) := match shp k with
  | .inl q => (q.2[j]?).map (fun t => (q.1, t))
  | _ => none
def rAt (k : Nat) : Option (List Nat) := match shp k with
  | .inr (.inr L) => some L
  | _ => none
def cAt (k : Nat) : Option Nat := match shp k with
  | .inl q => some q.1
  | _ => none
theorem shp_big {k : Nat} (h : 104 ≤ k) : shp k = .inr (.inr []) := by
  unfold shp
  rw [List.getD_eq_getElem?_getD, List.getElem?_eq_none]
  · rfl
  · exact Nat.le_trans (by decide) h
theorem aAt_lt {k : Nat} {q : Nat × Nat} (h : aAt k = some q) : k < 104 := by
  rcases Nat.lt_or_ge k 104 with h1 | h1
  · exact h1
  · rw [aAt, shp_big h1] at h; cases h
theorem fAt_lt {k j : Nat} {q : Nat × Option Nat} (h : fAt k j = some q) : k < 104 := by
  rcases Nat.lt_or_ge k 104 with h1 | h1
  · exact h1
  · rw [fAt, shp_big h1] at h; cases h
theorem cAt_lt {k : Nat} {q : Nat} (h : cAt k = some q) : k < 104 := by
  rcases Nat.lt_or_ge k 104 with h1 | h1
  · exact h1
  · rw [cAt, shp_big h1] at h; cases h
theorem aAt_cell {Γ : Gam} {g : Mem} {k : Nat} {q : Nat × Nat} (h : aAt k = some q) : cellE Γ k g = .inl (Γ.2.2.2.2.1 q.1, q.2, .inl (g k)) := by
  unfold aAt at h
  unfold cellE
  split at h
  · rename_i q' hq
    rw [hq]
    cases h
    rfl
  · cases h
theorem fAt_cell {Γ : Gam} {g : Mem} {k j : Nat} {q : Nat × Option Nat} (h : fAt k j = some q) : ∃ fl, fl[j]? = some q.2 ∧ ∀ g : Mem, cellE Γ k g = .inr (q.1, fldV Γ.2.2.2.1 (g k) fl) := by
  unfold fAt at h
  split at h
  · rename_i q' hq
    cases hj : q'.2[j]? with
    | none => rw [hj] at h; cases h
    | some t =>
      rw [hj] at h
      cases h
      exact ⟨q'.2, hj, fun g => by unfold cellE; rw [hq]⟩
  · cases h
theorem cAt_cell {Γ : Gam} {g : Mem} {k ci : Nat} (h : cAt k = some ci) : ∃ fs, cellE Γ k g = .inr (ci, fs) := by
  unfold cAt at h
  split at h
  · rename_i q' hq
    cases h
    exact ⟨fldV Γ.2.2.2.1 (g k) q'.2, by unfold cellE; rw [hq]⟩
  · cases h
theorem rAt_lt {k : Nat} {x : Nat} {L : List Nat} (h : rAt k = some (x :: L)) : k < 104 := by
  rcases Nat.lt_or_ge k 104 with h1 | h1
  · exact h1
  · rw [rAt, shp_big h1] at h; cases h
theorem rAt_cell {Γ : Gam} {g : Mem} {k : Nat} {L : List Nat} (h : rAt k = some L) : cellE Γ k g = .inl (Γ.2.2.2.2.1 2, L.length, .inr (.inr (.inr (.inr (fun j => (L[j]?).map Γ.2.2.2.1))))) := by
  unfold rAt at h
  unfold cellE
  split at h
  · rename_i q' hq
    rw [hq]
    cases h
    rfl
  · cases h
def lset : List (Option AV) → Nat → AV → List (Option AV)
  | [], 0, v => [some v]
  | [], i + 1, v => none :: lset [] i v
  | _ :: ls, 0, v => some v :: ls
  | o :: ls, i + 1, v => o :: lset ls i v
theorem lget_nil (i : Nat) : lget [] i = none := by simp [lget]
theorem lget_0 (o : Option AV) (ls : List (Option AV)) : lget (o :: ls) 0 = o := by simp [lget]
theorem lget_s (o : Option AV) (ls : List (Option AV)) (i : Nat) : lget (o :: ls) (i + 1) = lget ls i := by simp [lget]
theorem lget_lset (v : AV) : ∀ (ls : List (Option AV)) (i j : Nat), lget (lset ls i v) j = if j = i then some v else lget ls j
  | [], 0, 0 => by simp [lset, lget]
  | [], 0, j + 1 => by simp [lset, lget_s, lget_nil]
  | [], i + 1, 0 => by simp [lset, lget_0, lget_nil]
  | [], i + 1, j + 1 => by simp [lset, lget_s, lget_nil, lget_lset v [] i j]
  | o :: ls, 0, 0 => by simp [lset, lget]
  | o :: ls, 0, j + 1 => by simp [lset, lget_s]
  | o :: ls, i + 1, 0 => by simp [lset, lget_0]
  | o :: ls, i + 1, j + 1 => by simp [lset, lget_s, lget_lset v ls i j]
def lmask : List Bool → List (Option AV) → List (Option AV)
  | true :: bs, o :: ls => o :: lmask bs ls
  | false :: bs, _ :: ls => none :: lmask bs ls
  | _, _ => []
theorem lget_lmask : ∀ (bs : List Bool) (ls : List (Option AV)) (i : Nat) (v : AV), lget (lmask bs ls) i = some v → lget ls i = some v
  | [], ls, i, v, h => by cases ls <;> simp [lmask, lget_nil] at h
  | b :: bs, [], i, v, h => by cases b <;> simp [lmask, lget_nil] at h
  | true :: bs, o :: ls, 0, v, h => by simpa [lmask, lget_0] using h
  | false :: bs, o :: ls, 0, v, h => by simp [lmask, lget_0] at h
  | true :: bs, o :: ls, i + 1, v, h => by
    rw [lget_s]; exact lget_lmask bs ls i v (by simpa [lmask, lget_s] using h)
  | false :: bs, o :: ls, i + 1, v, h => by
    rw [lget_s]; exact lget_lmask bs ls i v (by simpa [lmask, lget_s] using h)
def asc (ad : Nat → Nat) (ls : List (Option AV)) : List (Nat × Value) := (List.range ls.length).filterMap (fun j => (lget ls j).map (fun v => (j, avV ad v)))
theorem asc_mem {ad : Nat → Nat} {ls : List (Option AV)} {j : Nat} {v : AV} (h : lget ls j = some v) : (j, avV ad v) ∈ asc ad ls := by
  have hj : j < ls.length := by
    rcases Nat.lt_or_ge j ls.length with h1 | h1
    · exact h1
    · simp [lget, List.getElem?_eq_none h1] at h
  exact List.mem_filterMap.mpr ⟨j, List.mem_range.mpr hj, by rw [h]; rfl⟩
theorem LsOk.has {Γ : Gam} {lsA : Array Slot} {nL : Nat} {ls : List (Option AV)} (h : LsOk Γ lsA nL ls) : lv_has lsA nL (asc Γ.2.2.2.1 ls) := by
  refine ⟨h.1, h.2.1, fun q hq => ?_⟩
  obtain ⟨j, -, hj⟩ := List.mem_filterMap.mp hq
  cases hg : lget ls j with
  | none => rw [hg] at hj; cases hj
  | some v =>
    rw [hg] at hj
    cases hj
    exact h.2.2 j v hg
theorem LsOk.st {Γ : Gam} {lsA : Array Slot} {nL i : Nat} {ls ls' : List (Option AV)} {v : AV} {lv : List (Nat × Value)} (hlv : ∀ q ∈ asc Γ.2.2.2.1 ls, q ∈ lv) (h : lv_has lsA nL ((i, avV Γ.2.2.2.1 v) :: lv.filter (fun q => !(q.1 == i) && !(q.1 + 1 == i && q.2.category == 2)))) (hs : lset ls i v = ls') : LsOk Γ lsA nL ls' := by
  subst hs
  refine ⟨h.1, h.2.1, fun j w hw => ?_⟩
  rw [lget_lset] at hw
  by_cases hj : j = i
  · subst hj
    rw [if_pos rfl] at hw
    cases hw
    exact h.2.2 _ List.mem_cons_self
  · rw [if_neg hj] at hw
    refine h.2.2 (j, avV Γ.2.2.2.1 w) (List.mem_cons_of_mem _ (List.mem_filter.mpr ⟨hlv _ (asc_mem hw), ?_⟩))
    simp [hj, avV_cat]
section AWR
variable {Γ : Gam} {D : Nat} {I : Mi} {P : Int32 → Mem → Prop} {pc : Nat} {ls ls' : List (Option AV)} {st : List AV} {g : Mem}
theorem aw_mask (bs : List Bool) (h : lmask bs ls = ls') (K : AW Γ D I P pc ls' st g) : AW Γ D I P pc ls st g := by
  intro p e s m args below meth c hO H locs lsA hP hS hL
  subst h
  exact K p e s m args below meth c hO H locs lsA hP hS ⟨hL.1, hL.2.1, fun i v hv => hL.2.2 i v (lget_lmask bs ls i v hv)⟩
theorem aw_iconst {n : Int} (v : Int32) (hd : decode I.1 pc = .ok (.iconst n, 1)) (hv : Int32.ofInt n = v) (K : AW Γ D I P (pc + 1) ls (.inl v :: st) g) : AW Γ D I P pc ls st g := by
  intro p e s m args below meth c hO H locs lsA hP hS hL
  exact lv_iconst hO.1 hO.2.1 hd hv (K p e s m args below meth c hO H locs lsA hP hS hL)
theorem aw_bipush {n : Int} (v : Int32) (hd : decode I.1 pc = .ok (.bipush n, 2)) (hv : (Int8.ofInt n).toInt32 = v) (K : AW Γ D I P (pc + 2) ls (.inl v :: st) g) : AW Γ D I P pc ls st g := by
  intro p e s m args below meth c hO H locs lsA hP hS hL
  exact lv_bipush hO.1 hO.2.1 hd hv (K p e s m args below meth c hO H locs lsA hP hS hL)
theorem aw_sipush {n : Int} (v : Int32) (hd : decode I.1 pc = .ok (.sipush n, 3)) (hv : (Int16.ofInt n).toInt32 = v) (K : AW Γ D I P (pc + 3) ls (.inl v :: st) g) : AW Γ D I P pc ls st g := by
  intro p e s m args below meth c hO H locs lsA hP hS hL
  exact lv_sipush hO.1 hO.2.1 hd hv (K p e s m args below meth c hO H locs lsA hP hS hL)
theorem aw_iload_n {k : Fin 4} {x : Int32} (hd : decode I.1 pc = .ok (.iload_n k, 1)) (hl : lget ls k = some (.inl x)) (K : AW Γ D I P (pc + 1) ls (.inl x :: st) g) : AW Γ D I P pc ls st g := by
  intro p e s m args below meth c hO H locs lsA hP hS hL
  exact lv_iload_n hO.1 hO.2.1 hd rfl (hL.2.2 _ _ hl) (K p e s m args below meth c hO H locs lsA hP hS hL)
theorem aw_iload {k : Nat} {x : Int32} (hd : decode I.1 pc = .ok (.iload k, 2)) (hl : lget ls k = some (.inl x)) (K : AW Γ D I P (pc + 2) ls (.inl x :: st) g) : AW Γ D I P pc ls st g := by
  intro p e s m args below meth c hO H locs lsA hP hS hL
  exact lv_iload hO.1 hO.2.1 hd (hL.2.2 _ _ hl) (K p e s m args below meth c hO H locs lsA hP hS hL)
theorem aw_aload_n {k : Fin 4} {x : Nat} (hd : decode I.1 pc = .ok (.aload_n k, 1)) (hl : lget ls k = some (.inr x)) (K : AW Γ D I P (pc + 1) ls (.inr x :: st) g) : AW Γ D I P pc ls st g := by
  intro p e s m args below meth c hO H locs lsA hP hS hL
  exact lv_aload_n hO.1 hO.2.1 hd rfl (hL.2.2 _ _ hl) (K p e s m args below meth c hO H locs lsA hP hS hL)
theorem aw_istore_n {k : Fin 4} {x : Int32} (ls' : List (Option AV)) (hd : decode I.1 pc = .ok (.istore_n k, 1)) (hn : (k : Nat) < I.2.2.1) (hs : lset ls (k : Nat) (.inl x) = ls') (K : AW Γ D I P (pc + 1) ls' st g) : AW Γ D I P pc ls (.inl x :: st) g := by
  intro p e s m args below meth c hO H locs lsA hP hS hL
  exact lv_istore_n hO.1 hO.2.1 hd rfl hL.has hn rfl (fun lsB hB => K p e s m args below meth c hO H locs lsB hP hS (LsOk.st (v := .inl x) (fun q h => h) hB hs))
theorem aw_istore {k : Nat} {x : Int32} (ls' : List (Option AV)) (hd : decode I.1 pc = .ok (.istore k, 2)) (hn : k < I.2.2.1) (hs : lset ls k (.inl x) = ls') (K : AW Γ D I P (pc + 2) ls' st g) : AW Γ D I P pc ls (.inl x :: st) g := by
  intro p e s m args below meth c hO H locs lsA hP hS hL
  exact lv_istore hO.1 hO.2.1 hd hL.has hn rfl (fun lsB hB => K p e s m args below meth c hO H locs lsB hP hS (LsOk.st (v := .inl x) (fun q h => h) hB hs))
theorem aw_astore_n {k : Fin 4} {x : Nat} (ls' : List (Option AV)) (hd : decode I.1 pc = .ok (.astore_n k, 1)) (hn : (k : Nat) < I.2.2.1) (hs : lset ls (k : Nat) (.inr x) = ls') (K : AW Γ D I P (pc + 1) ls' st g) : AW Γ D I P pc ls (.inr x :: st) g := by
  intro p e s m args below meth c hO H locs lsA hP hS hL
  exact lv_astore_n hO.1 hO.2.1 hd rfl hL.has hn rfl (fun lsB hB => K p e s m args below meth c hO H locs lsB hP hS (LsOk.st (v := .inr x) (fun q h => h) hB hs))
theorem aw_iinc {k : Nat} {n : Int} {x : Int32} (v : Int32) (ls' : List (Option AV)) (hd : decode I.1 pc = .ok (.iinc k n, 3)) (hl : lget ls k = some (.inl x)) (hv : x + Int32.ofInt n = v) (hn : k < I.2.2.1) (hs : lset ls k (.inl v) = ls') (K : AW Γ D I P (pc + 3) ls' st g) : AW Γ D I P pc ls st g := by
  intro p e s m args below meth c hO H locs lsA hP hS hL
  have h0 : lv_has lsA I.2.2.1 ((k, .int x) :: asc Γ.2.2.2.1 ls) := ⟨hL.1, hL.2.1, fun q hq => (List.mem_cons.mp hq).elim (fun e => by rw [e]; exact hL.2.2 k (.inl x) hl) (fun hq => hL.has.2.2 q hq)⟩
  exact lv_iinc (k := 0) (x := x) (v := v) hO.1 hO.2.1 hd h0 rfl hv hn rfl (fun lsB hB => K p e s m args below meth c hO H locs lsB hP hS (LsOk.st (v := .inl v) (fun q h => List.mem_cons_of_mem _ h) hB hs))
theorem aw_iadd {x y : Int32} (hd : decode I.1 pc = .ok (.iadd, 1)) (K : AW Γ D I P (pc + 1) ls (.inl (x + y) :: st) g) : AW Γ D I P pc ls (.inl y :: .inl x :: st) g := by
  intro p e s m args below meth c hO H locs lsA hP hS hL
  exact lv_iadd hO.1 hO.2.1 hd (K p e s m args below meth c hO H locs lsA hP hS hL)
theorem aw_isub {x y : Int32} (hd : decode I.1 pc = .ok (.isub, 1)) (K : AW Γ D I P (pc + 1) ls (.inl (x - y) :: st) g) : AW Γ D I P pc ls (.inl y :: .inl x :: st) g := by
  intro p e s m args below meth c hO H locs lsA hP hS hL
  exact lv_isub hO.1 hO.2.1 hd (K p e s m args below meth c hO H locs lsA hP hS hL)
theorem aw_imul {x y : Int32} (hd : decode I.1 pc = .ok (.imul, 1)) (K : AW Γ D I P (pc + 1) ls (.inl (x * y) :: st) g) : AW Γ D I P pc ls (.inl y :: .inl x :: st) g := by
  intro p e s m args below meth c hO H locs lsA hP hS hL
  exact lv_imul hO.1 hO.2.1 hd (K p e s m args below meth c hO H locs lsA hP hS hL)
theorem aw_iand {x y : Int32} (hd : decode I.1 pc = .ok (.iand, 1)) (K : AW Γ D I P (pc + 1) ls (.inl (x &&& y) :: st) g) : AW Γ D I P pc ls (.inl y :: .inl x :: st) g := by
  intro p e s m args below meth c hO H locs lsA hP hS hL
  exact lv_iand hO.1 hO.2.1 hd (K p e s m args below meth c hO H locs lsA hP hS hL)
theorem aw_ior {x y : Int32} (hd : decode I.1 pc = .ok (.ior, 1)) (K : AW Γ D I P (pc + 1) ls (.inl (x ||| y) :: st) g) : AW Γ D I P pc ls (.inl y :: .inl x :: st) g := by
  intro p e s m args below meth c hO H locs lsA hP hS hL
  exact lv_ior hO.1 hO.2.1 hd (K p e s m args below meth c hO H locs lsA hP hS hL)
theorem aw_ixor {x y : Int32} (hd : decode I.1 pc = .ok (.ixor, 1)) (K : AW Γ D I P (pc + 1) ls (.inl (x ^^^ y) :: st) g) : AW Γ D I P pc ls (.inl y :: .inl x :: st) g := by
  intro p e s m args below meth c hO H locs lsA hP hS hL
  exact lv_ixor hO.1 hO.2.1 hd (K p e s m args below meth c hO H locs lsA hP hS hL)
theorem aw_ishl {x y : Int32} (hd : decode I.1 pc = .ok (.ishl, 1)) (K : AW Γ D I P (pc + 1) ls (.inl (x <<< (y &&& 31)) :: st) g) : AW Γ D I P pc ls (.inl y :: .inl x :: st) g := by
  intro p e s m args below meth c hO H locs lsA hP hS hL
  exact lv_ishl hO.1 hO.2.1 hd (K p e s m args below meth c hO H locs lsA hP hS hL)
theorem aw_ishr {x y : Int32} (hd : decode I.1 pc = .ok (.ishr, 1)) (K : AW Γ D I P (pc + 1) ls (.inl (x >>> (y &&& 31)) :: st) g) : AW Γ D I P pc ls (.inl y :: .inl x :: st) g := by
  intro p e s m args below meth c hO H locs lsA hP hS hL
  exact lv_ishr hO.1 hO.2.1 hd (K p e s m args below meth c hO H locs lsA hP hS hL)
theorem aw_idiv {x y : Int32} (hd : decode I.1 pc = .ok (.idiv, 1)) (hy : ¬ y = 0) (K : AW Γ D I P (pc + 1) ls (.inl (x / y) :: st) g) : AW Γ D I P pc ls (.inl y :: .inl x :: st) g := by
  intro p e s m args below meth c hO H locs lsA hP hS hL
  exact lv_idiv hO.1 hO.2.1 hd hy (K p e s m args below meth c hO H locs lsA hP hS hL)
theorem aw_irem {x y : Int32} (hd : decode I.1 pc = .ok (.irem, 1)) (hy : ¬ y = 0) (K : AW Γ D I P (pc + 1) ls (.inl (x - x / y * y) :: st) g) : AW Γ D I P pc ls (.inl y :: .inl x :: st) g := by
  intro p e s m args below meth c hO H locs lsA hP hS hL
  exact lv_irem hO.1 hO.2.1 hd hy (K p e s m args below meth c hO H locs lsA hP hS hL)
theorem aw_iushr {x y : Int32} (hd : decode I.1 pc = .ok (.iushr, 1)) (K : AW Γ D I P (pc + 1) ls (.inl ((x.toUInt32 >>> (y.toUInt32 &&& Int32.toUInt32 31)).toInt32) :: st) g) : AW Γ D I P pc ls (.inl y :: .inl x :: st) g := by
  intro p e s m args below meth c hO H locs lsA hP hS hL
  exact lv_iushr hO.1 hO.2.1 hd rfl (K p e s m args below meth c hO H locs lsA hP hS hL)
theorem aw_dup {v : AV} (hd : decode I.1 pc = .ok (.dup, 1)) (K : AW Γ D I P (pc + 1) ls (v :: v :: st) g) : AW Γ D I P pc ls (v :: st) g := by
  intro p e s m args below meth c hO H locs lsA hP hS hL
  exact lv_dup hO.1 hO.2.1 hd (avV_cat _ v) (K p e s m args below meth c hO H locs lsA hP hS hL)
theorem aw_dup2 {v w : AV} (hd : decode I.1 pc = .ok (.dup2, 1)) (K : AW Γ D I P (pc + 1) ls (v :: w :: v :: w :: st) g) : AW Γ D I P pc ls (v :: w :: st) g := by
  intro p e s m args below meth c hO H locs lsA hP hS hL
  exact lv_dup2_11 hO.1 hO.2.1 hd (avV_cat _ v) (avV_cat _ w) (K p e s m args below meth c hO H locs lsA hP hS hL)
theorem aw_pop {v : AV} (hd : decode I.1 pc = .ok (.pop, 1)) (K : AW Γ D I P (pc + 1) ls st g) : AW Γ D I P pc ls (v :: st) g := by
  intro p e s m args below meth c hO H locs lsA hP hS hL
  exact lv_pop hO.1 hO.2.1 hd (avV_cat _ v) (K p e s m args below meth c hO H locs lsA hP hS hL)
theorem aw_if_eq {x : Int32} {off : Int} (tgt : Nat) (hd : decode I.1 pc = .ok (.ifCond .eq off, 3)) (ht : (pc : Int) + off = (tgt : Int)) (kt : x = 0 → AW Γ D I P tgt ls st g) (kf : ¬ (x = 0) → AW Γ D I P (pc + 3) ls st g) : AW Γ D I P pc ls (.inl x :: st) g := by
  intro p e s m args below meth c hO H locs lsA hP hS hL
  exact lv_if_eq hO.1 hO.2.1 hd ht (fun h => kt h p e s m args below meth c hO H locs lsA hP hS hL) (fun h => kf h p e s m args below meth c hO H locs lsA hP hS hL)
theorem aw_icmp_eq {x y : Int32} {off : Int} (tgt : Nat) (hd : decode I.1 pc = .ok (.if_icmp .eq off, 3)) (ht : (pc : Int) + off = (tgt : Int)) (kt : x = y → AW Γ D I P tgt ls st g) (kf : ¬ (x = y) → AW Γ D I P (pc + 3) ls st g) : AW Γ D I P pc ls (.inl y :: .inl x :: st) g := by
  intro p e s m args below meth c hO H locs lsA hP hS hL
  exact lv_icmp_eq hO.1 hO.2.1 hd ht (fun h => kt h p e s m args below meth c hO H locs lsA hP hS hL) (fun h => kf h p e s m args below meth c hO H locs lsA hP hS hL)
theorem aw_if_ne {x : Int32} {off : Int} (tgt : Nat) (hd : decode I.1 pc = .ok (.ifCond .ne off, 3)) (ht : (pc : Int) + off = (tgt : Int)) (kt : ¬ x = 0 → AW Γ D I P tgt ls st g) (kf : x = 0 → AW Γ D I P (pc + 3) ls st g) : AW Γ D I P pc ls (.inl x :: st) g := by
  intro p e s m args below meth c hO H locs lsA hP hS hL
  exact lv_if_ne hO.1 hO.2.1 hd ht (fun h => kt h p e s m args below meth c hO H locs lsA hP hS hL) (fun h => kf h p e s m args below meth c hO H locs lsA hP hS hL)
theorem aw_icmp_ne {x y : Int32} {off : Int} (tgt : Nat) (hd : decode I.1 pc = .ok (.if_icmp .ne off, 3)) (ht : (pc : Int) + off = (tgt : Int)) (kt : ¬ x = y → AW Γ D I P tgt ls st g) (kf : x = y → AW Γ D I P (pc + 3) ls st g) : AW Γ D I P pc ls (.inl y :: .inl x :: st) g := by
  intro p e s m args below meth c hO H locs lsA hP hS hL
  exact lv_icmp_ne hO.1 hO.2.1 hd ht (fun h => kt h p e s m args below meth c hO H locs lsA hP hS hL) (fun h => kf h p e s m args below meth c hO H locs lsA hP hS hL)
theorem aw_if_lt {x : Int32} {off : Int} (tgt : Nat) (hd : decode I.1 pc = .ok (.ifCond .lt off, 3)) (ht : (pc : Int) + off = (tgt : Int)) (kt : x < 0 → AW Γ D I P tgt ls st g) (kf : ¬ (x < 0) → AW Γ D I P (pc + 3) ls st g) : AW Γ D I P pc ls (.inl x :: st) g := by
  intro p e s m args below meth c hO H locs lsA hP hS hL
  exact lv_if_lt hO.1 hO.2.1 hd ht (fun h => kt h p e s m args below meth c hO H locs lsA hP hS hL) (fun h => kf h p e s m args below meth c hO H locs lsA hP hS hL)
theorem aw_icmp_lt {x y : Int32} {off : Int} (tgt : Nat) (hd : decode I.1 pc = .ok (.if_icmp .lt off, 3)) (ht : (pc : Int) + off = (tgt : Int)) (kt : x < y → AW Γ D I P tgt ls st g) (kf : ¬ (x < y) → AW Γ D I P (pc + 3) ls st g) : AW Γ D I P pc ls (.inl y :: .inl x :: st) g := by
  intro p e s m args below meth c hO H locs lsA hP hS hL
  exact lv_icmp_lt hO.1 hO.2.1 hd ht (fun h => kt h p e s m args below meth c hO H locs lsA hP hS hL) (fun h => kf h p e s m args below meth c hO H locs lsA hP hS hL)
theorem aw_if_ge {x : Int32} {off : Int} (tgt : Nat) (hd : decode I.1 pc = .ok (.ifCond .ge off, 3)) (ht : (pc : Int) + off = (tgt : Int)) (kt : 0 ≤ x → AW Γ D I P tgt ls st g) (kf : ¬ (0 ≤ x) → AW Γ D I P (pc + 3) ls st g) : AW Γ D I P pc ls (.inl x :: st) g := by
  intro p e s m args below meth c hO H locs lsA hP hS hL
  exact lv_if_ge hO.1 hO.2.1 hd ht (fun h => kt h p e s m args below meth c hO H locs lsA hP hS hL) (fun h => kf h p e s m args below meth c hO H locs lsA hP hS hL)
theorem aw_icmp_ge {x y : Int32} {off : Int} (tgt : Nat) (hd : decode I.1 pc = .ok (.if_icmp .ge off, 3)) (ht : (pc : Int) + off = (tgt : Int)) (kt : y ≤ x → AW Γ D I P tgt ls st g) (kf : ¬ (y ≤ x) → AW Γ D I P (pc + 3) ls st g) : AW Γ D I P pc ls (.inl y :: .inl x :: st) g := by
  intro p e s m args below meth c hO H locs lsA hP hS hL
  exact lv_icmp_ge hO.1 hO.2.1 hd ht (fun h => kt h p e s m args below meth c hO H locs lsA hP hS hL) (fun h => kf h p e s m args below meth c hO H locs lsA hP hS hL)
theorem aw_if_gt {x : Int32} {off : Int} (tgt : Nat) (hd : decode I.1 pc = .ok (.ifCond .gt off, 3)) (ht : (pc : Int) + off = (tgt : Int)) (kt : 0 < x → AW Γ D I P tgt ls st g) (kf : ¬ (0 < x) → AW Γ D I P (pc + 3) ls st g) : AW Γ D I P pc ls (.inl x :: st) g := by
  intro p e s m args below meth c hO H locs lsA hP hS hL
  exact lv_if_gt hO.1 hO.2.1 hd ht (fun h => kt h p e s m args below meth c hO H locs lsA hP hS hL) (fun h => kf h p e s m args below meth c hO H locs lsA hP hS hL)
theorem aw_icmp_gt {x y : Int32} {off : Int} (tgt : Nat) (hd : decode I.1 pc = .ok (.if_icmp .gt off, 3)) (ht : (pc : Int) + off = (tgt : Int)) (kt : y < x → AW Γ D I P tgt ls st g) (kf : ¬ (y < x) → AW Γ D I P (pc + 3) ls st g) : AW Γ D I P pc ls (.inl y :: .inl x :: st) g := by
  intro p e s m args below meth c hO H locs lsA hP hS hL
  exact lv_icmp_gt hO.1 hO.2.1 hd ht (fun h => kt h p e s m args below meth c hO H locs lsA hP hS hL) (fun h => kf h p e s m args below meth c hO H locs lsA hP hS hL)
theorem aw_if_le {x : Int32} {off : Int} (tgt : Nat) (hd : decode I.1 pc = .ok (.ifCond .le off, 3)) (ht : (pc : Int) + off = (tgt : Int)) (kt : x ≤ 0 → AW Γ D I P tgt ls st g) (kf : ¬ (x ≤ 0) → AW Γ D I P (pc + 3) ls st g) : AW Γ D I P pc ls (.inl x :: st) g := by
  intro p e s m args below meth c hO H locs lsA hP hS hL
  exact lv_if_le hO.1 hO.2.1 hd ht (fun h => kt h p e s m args below meth c hO H locs lsA hP hS hL) (fun h => kf h p e s m args below meth c hO H locs lsA hP hS hL)
theorem aw_icmp_le {x y : Int32} {off : Int} (tgt : Nat) (hd : decode I.1 pc = .ok (.if_icmp .le off, 3)) (ht : (pc : Int) + off = (tgt : Int)) (kt : x ≤ y → AW Γ D I P tgt ls st g) (kf : ¬ (x ≤ y) → AW Γ D I P (pc + 3) ls st g) : AW Γ D I P pc ls (.inl y :: .inl x :: st) g := by
  intro p e s m args below meth c hO H locs lsA hP hS hL
  exact lv_icmp_le hO.1 hO.2.1 hd ht (fun h => kt h p e s m args below meth c hO H locs lsA hP hS hL) (fun h => kf h p e s m args below meth c hO H locs lsA hP hS hL)
theorem aw_goto {off : Int} (tgt : Nat) (hd : decode I.1 pc = .ok (.goto off, 3)) (ht : (pc : Int) + off = (tgt : Int)) (K : AW Γ D I P tgt ls st g) : AW Γ D I P pc ls st g := by
  intro p e s m args below meth c hO H locs lsA hP hS hL
  exact lv_goto hO.1 hO.2.1 hd ht (K p e s m args below meth c hO H locs lsA hP hS hL)
def FOk (own : String) (idx ci j : Nat) : Prop := ∃ (C : String) (T : u_T) (N : Nat), vwCl[ci]? = some (C, T, N) ∧ j < N ∧ (∀ w ∈ u_ws C T N, w ∈ GW) ∧ Cond.fieldLink own idx (T j).1 (T j).2.1 (T j).2.2.1 ∈ GW
def FPok (own : String) (idx ci j : Nat) (ty : FieldType) : Prop := ∃ (C : String) (T : u_T) (N : Nat) (ty0 : Nat → FieldType), vwCl[ci]? = some (C, T, N) ∧ j < N ∧ (∀ w ∈ u_ws C T N, w ∈ GW) ∧ Cond.fieldLink own idx (T j).1 (T j).2.1 (T j).2.2.1 ∈ GW ∧ (∀ k, k < N → parseFieldDescriptor (T k).2.2.1 = some (ty0 k)) ∧ (∀ a, a < N → ∀ b, b < N → a ≠ b → (T a).2.1 ≠ (T b).2.1) ∧ (T j).2.2.2 = false ∧ parseFieldDescriptor (T j).2.2.1 = some ty
theorem aw_getf {k idx ci j : Nat} {t : Option Nat} (hF : FOk I.2.1 idx ci j) (hf : fAt k j = some (ci, t)) (hd : decode I.1 pc = .ok (.getfield idx, 3)) (v : AV) (hv : fv1 Γ.2.2.2.1 (g k) j t = avV Γ.2.2.2.1 v) (K : AW Γ D I P (pc + 3) ls (v :: st) g) : AW Γ D I P pc ls (.inr k :: st) g := by
  intro p e s m args below meth c hO H locs lsA hP hS hL
  obtain ⟨C, T, N, h1, h2, h3, h4⟩ := hF
  obtain ⟨fl, h5, h6⟩ := fAt_cell (Γ := Γ) (g := g) hf
  exact va_get (v := avV Γ.2.2.2.1 v) hO.1 hO.2.1 hO.2.2.2.2.2.1 h3 hO.2.2.2.2.1 hO.2.2.2.2.2.2.2.1 hP k (by rw [wd_at (fAt_lt hf), h6]) h1 j h2 (hO.2.2.2.2.2.1 _ h4) (fun _ h => h) (by rw [fldV_at h5, ← hv]) hd (K p e s m args below meth c hO H locs lsA hP hS hL)
theorem aw_geti {k idx ci j : Nat} (hF : FOk I.2.1 idx ci j) (hf : fAt k j = some (ci, none)) (hd : decode I.1 pc = .ok (.getfield idx, 3)) (K : AW Γ D I P (pc + 3) ls (.inl (g k j) :: st) g) : AW Γ D I P pc ls (.inr k :: st) g := aw_getf hF hf hd (.inl (g k j)) rfl K
theorem aw_getr {k idx ci j : Nat} (q : Nat) (hF : FOk I.2.1 idx ci j) (hf : fAt k j = some (ci, some q)) (hd : decode I.1 pc = .ok (.getfield idx, 3)) (K : AW Γ D I P (pc + 3) ls (.inr q :: st) g) : AW Γ D I P pc ls (.inr k :: st) g := aw_getf hF hf hd (.inr q) rfl K
theorem aw_putf {k idx ci j : Nat} {ty : FieldType} {x : Int32} (hF : FPok I.2.1 idx ci j ty) (hf : fAt k j = some (ci, none)) (hn : narrow ty (.int x) = .int x) (hfit : fits ty (.int x) = true) (hd : decode I.1 pc = .ok (.putfield idx, 3)) (K : AW Γ D I P (pc + 3) ls st (up g k j x)) : AW Γ D I P pc ls (.inl x :: .inr k :: st) g := by
  intro p e s m args below meth c hO H locs lsA hP hS hL
  obtain ⟨C, T, N, ty0, h1, h2, h3, h4, t1, t2, t3, t4⟩ := hF
  obtain ⟨fl, h5, h6⟩ := fAt_cell (Γ := Γ) (g := g) hf
  have hlt := fAt_lt hf
  have hfl : j < (fldV Γ.2.2.2.1 (g k) fl).length := by
    have := (List.getElem?_eq_some_iff.mp h5).1
    simpa [fldV] using this
  refine va_put (v := .int x) hO.1 hO.2.1 hO.2.2.2.2.2.1 h3 ty0 t1 t2 hO.2.2.2.2.1 hO.2.2.2.2.2.2.2.1 hP (wd_D hO.2.2.2.2.2.2.2 g) hS k (by rw [wd_at hlt, h6]) h1 j h2 (hO.2.2.2.2.2.1 _ h4) (fun _ h => h) t3 t4 hn hfit hfl hd (fun H1 locs1 q1 q2 q3 => ?_)
  have e1 : (wd Γ g).set k (Γ.2.2.2.1 k, .inr (ci, (fldV Γ.2.2.2.1 (g k) fl).set j (.int x))) = wd Γ (up g k j x) := wd_set hlt (by rw [h6, up_same, fldV_set h5]) (fun a ha => up_ne ha)
  rw [e1] at q1
  exact K p e s m args below meth c hO H1 locs1 lsA q1 q3 hL
theorem aw_iald {k n : Nat} {i : Int32} (ha : aAt k = some (0, n)) (hd : decode I.1 pc = .ok (.iaload, 1)) (hin : vp_in i n) (K : AW Γ D I P (pc + 1) ls (.inl (g k i.toNatClampNeg) :: st) g) : AW Γ D I P pc ls (.inl i :: .inr k :: st) g := by
  intro p e s m args below meth c hO H locs lsA hP hS hL
  exact va_iald (f := g k) hO.1 hO.2.1 hO.2.2.2.2.2.2.2.1 hP k 0 (by rw [wd_at (aAt_lt ha), aAt_cell ha]) rfl hin hd (K p e s m args below meth c hO H locs lsA hP hS hL)
theorem aw_zald {k n : Nat} {i : Int32} (ha : aAt k = some (1, n)) (hd : decode I.1 pc = .ok (.baload, 1)) (hin : vp_in i n) (K : AW Γ D I P (pc + 1) ls (.inl (g k i.toNatClampNeg) :: st) g) : AW Γ D I P pc ls (.inl i :: .inr k :: st) g := by
  intro p e s m args below meth c hO H locs lsA hP hS hL
  exact va_zald (f := g k) hO.1 hO.2.1 hO.2.2.2.2.2.2.2.1 hP k 1 (by rw [wd_at (aAt_lt ha), aAt_cell ha]) rfl hin hd (K p e s m args below meth c hO H locs lsA hP hS hL)
theorem aw_iast {k n : Nat} {i x : Int32} (ha : aAt k = some (0, n)) (hd : decode I.1 pc = .ok (.iastore, 1)) (hin : vp_in i n) (K : AW Γ D I P (pc + 1) ls st (up g k i.toNatClampNeg x)) : AW Γ D I P pc ls (.inl x :: .inl i :: .inr k :: st) g := by
  intro p e s m args below meth c hO H locs lsA hP hS hL
  refine va_iast (f := g k) hO.1 hO.2.1 hO.2.2.2.2.2.2.2.1 hP (wd_D hO.2.2.2.2.2.2.2 g) hS k 0 (by rw [wd_at (aAt_lt ha), aAt_cell ha]) rfl hin hd (fun H1 locs1 q1 q2 q3 => ?_)
  have e1 : (wd Γ g).set k (Γ.2.2.2.1 k, .inl (Γ.2.2.2.2.1 0, n, .inl (upd (g k) i.toNatClampNeg x))) = wd Γ (up g k i.toNatClampNeg x) := wd_set (aAt_lt ha) (by rw [aAt_cell ha, up_same]) (fun a ha => up_ne ha)
  rw [e1] at q1
  exact K p e s m args below meth c hO H1 locs1 lsA q1 q3 hL
theorem aw_zast {k n : Nat} {i x : Int32} (ha : aAt k = some (1, n)) (hd : decode I.1 pc = .ok (.bastore, 1)) (hin : vp_in i n) (hx : vp_nar .boolean x = x) (K : AW Γ D I P (pc + 1) ls st (up g k i.toNatClampNeg x)) : AW Γ D I P pc ls (.inl x :: .inl i :: .inr k :: st) g := by
  intro p e s m args below meth c hO H locs lsA hP hS hL
  refine va_zast (f := g k) hO.1 hO.2.1 hO.2.2.2.2.2.2.2.1 hP (wd_D hO.2.2.2.2.2.2.2 g) hS k 1 (by rw [wd_at (aAt_lt ha), aAt_cell ha]) rfl hin hd (fun H1 locs1 q1 q2 q3 => ?_)
  rw [hx] at q1
  have e1 : (wd Γ g).set k (Γ.2.2.2.1 k, .inl (Γ.2.2.2.2.1 1, n, .inl (upd (g k) i.toNatClampNeg x))) = wd Γ (up g k i.toNatClampNeg x) := wd_set (aAt_lt ha) (by rw [aAt_cell ha, up_same]) (fun a ha => up_ne ha)
  rw [e1] at q1
  exact K p e s m args below meth c hO H1 locs1 lsA q1 q3 hL
theorem aw_aald {k x : Nat} {i : Int32} {L : List Nat} (ha : rAt k = some (x :: L)) (hd : decode I.1 pc = .ok (.aaload, 1)) (hin : vp_in i (x :: L).length) (K : AW Γ D I P (pc + 1) ls (.inr ((x :: L).getD i.toNatClampNeg 0) :: st) g) : AW Γ D I P pc ls (.inl i :: .inr k :: st) g := by
  intro p e s m args below meth c hO H locs lsA hP hS hL
  have hlt : i.toNatClampNeg < (x :: L).length := Nat.not_le.mp fun q => hin (Or.inr q)
  have h0 := K p e s m args below meth c hO H locs lsA hP hS hL
  refine va_aldq (f := fun j => ((x :: L)[j]?).map Γ.2.2.2.1) (C := "ConfinementAnalyzer$State") hO.1 hO.2.1 hO.2.2.2.2.2.2.2.1 hP k 2 (by rw [wd_at (rAt_lt ha), rAt_cell ha]) rfl hin hd ?_
  have e1 : va_rf (((x :: L)[i.toNatClampNeg]?).map Γ.2.2.2.1) = avV Γ.2.2.2.1 (.inr ((x :: L).getD i.toNatClampNeg 0)) := by
    rw [List.getD_eq_getElem?_getD, List.getElem?_eq_getElem hlt]
    rfl
  rw [e1]
  exact h0
theorem aw_alen {k n t : Nat} (v : Int32) (ha : aAt k = some (0, n)) (hd : decode I.1 pc = .ok (.arraylength, 1)) (hv : Int32.ofNat n = v) (K : AW Γ D I P (pc + 1) ls (.inl v :: st) g) : AW Γ D I P pc ls (.inr k :: st) g := by
  intro p e s m args below meth c hO H locs lsA hP hS hL
  exact va_alen (x := (n, .inl (g k))) (ty := .int) hO.1 hO.2.1 hO.2.2.2.2.2.2.2.1 hP k 0 (by rw [wd_at (aAt_lt ha), aAt_cell ha]) rfl hv hd (K p e s m args below meth c hO H locs lsA hP hS hL)
theorem aw_iret {v : Int32} {ty : FieldType} (hr : I.2.2.2 = some ty) (hn : narrow ty (.int v) = .int v) (hd : decode I.1 pc = .ok (.ireturn, 1)) (h : P v g) : AW Γ D I P pc ls [.inl v] g := by
  intro p e s m args below meth c hO H locs lsA hP hS hL
  refine W.zret hO.1 hO.2.1 (hO.2.2.1.trans hr) hn (fun t ht hW => ?_) (fun q hq => hS.2.2 q hq) hd hO.2.2.2.2.2.2.1
  rw [hr]
  exact ⟨⟨v, g, rfl, h, by show va_P _ _ _ t.heap; rw [ht]; exact hP⟩, hS.F ht⟩
theorem aw_vret (hr : I.2.2.2 = none) (hd : decode I.1 pc = .ok (.return_, 1)) (h : P 0 g) : AW Γ D I P pc ls [] g := by
  intro p e s m args below meth c hO H locs lsA hP hS hL
  refine W.vret hO.1 hO.2.1 (hO.2.2.1.trans hr) (fun t ht hW => ?_) (fun q hq => hS.2.2 q hq) hd hO.2.2.2.2.2.2.1
  rw [hr]
  exact ⟨⟨g, rfl, h, by show va_P _ _ _ t.heap; rw [ht]; exact hP⟩, hS.F ht⟩
theorem aw_ldcw {idx : Nat} (v : Int32) (hc : Cond.constant I.2.1 idx v ∈ GW) (hd : decode I.1 pc = .ok (.ldc_w idx, 3)) (K : AW Γ D I P (pc + 3) ls (.inl v :: st) g) : AW Γ D I P pc ls st g := by
  intro p e s m args below meth c hO H locs lsA hP hS hL
  exact lv_ldcw hO.1 hO.2.1 hO.2.2.2.2.1 (hO.2.2.2.2.2.1 _ hc) hd (K p e s m args below meth c hO H locs lsA hP hS hL)
theorem aw_ldcs {idx i : Nat} {tx : String} (hi : sIdx[i]? = some (idx, tx)) (ho : I.2.1 = RX5) (hd : decode I.1 pc = .ok (.ldc idx, 2)) (K : AW Γ D I P (pc + 2) ls (.inr (200 + i) :: st) g) : AW Γ D I P pc ls st g := by
  intro p e s m args below meth c hO H locs lsA hP hS hL
  have hs := hO.2.2.2.2.2.2.2.2.2.1
  have h0 := K p e s m args below meth c hO H locs lsA hP hS hL
  have e1 : avV Γ.2.2.2.1 (.inr (200 + i)) = .ref (Γ.2.2.2.2.2.1 i) := by show Value.ref _ = _; rw [hs.2.2.2.2 i]
  rw [List.map_cons, e1] at h0
  exact va_ldcS hO.1 hO.2.1 hO.2.2.2.2.1 (by rw [ho]; exact hs.2.1 i _ hi) hd h0
theorem aw_tIn {dflt lo hi : Int} {offs : Array Int} {len : Nat} {x : Int32} {off : Int} (tgt : Nat) (hd : decode I.1 pc = .ok (.tableswitch dflt lo hi offs, len)) (h1 : ¬ x.toInt < lo) (h2 : ¬ hi < x.toInt) (ho : offs[(x.toInt - lo).toNat]? = some off) (ht : (pc : Int) + off = (tgt : Int)) (K : AW Γ D I P tgt ls st g) : AW Γ D I P pc ls (.inl x :: st) g := by
  intro p e s m args below meth c hO H locs lsA hP hS hL
  exact lv_tableIn hO.1 hO.2.1 hd h1 h2 ho ht (K p e s m args below meth c hO H locs lsA hP hS hL)
theorem aw_tOut {dflt lo hi : Int} {offs : Array Int} {len : Nat} {x : Int32} (tgt : Nat) (hd : decode I.1 pc = .ok (.tableswitch dflt lo hi offs, len)) (h : x.toInt < lo ∨ hi < x.toInt) (ht : (pc : Int) + dflt = (tgt : Int)) (K : AW Γ D I P tgt ls st g) : AW Γ D I P pc ls (.inl x :: st) g := by
  intro p e s m args below meth c hO H locs lsA hP hS hL
  exact lv_tableOut hO.1 hO.2.1 hd h ht (K p e s m args below meth c hO H locs lsA hP hS hL)
def cpy (g : Mem) (q0 q1 sp dp n : Nat) : Mem := fun a => if a = q1 then va_cpy (g q0) (g q1) sp dp n else g a
theorem aw_copy {q0 q1 n0 n1 idx : Nat} {sp dp n : Int32} (hw : ∀ w ∈ ([.methodLink I.2.1 idx arraycopyName, .native arraycopyName, .static arraycopyName, .initialized "java/lang/System"] : List Cond), w ∈ GW) (h0 : aAt q0 = some (0, n0)) (h1 : aAt q1 = some (0, n1)) (hD : 1 ≤ D) (hst : st.length ≤ 4) (hd : decode I.1 pc = .ok (.invokestatic idx, 3)) (hc : ¬ sp < 0 ∧ ¬ dp < 0 ∧ ¬ n < 0 ∧ sp.toNatClampNeg + n.toNatClampNeg ≤ n0 ∧ dp.toNatClampNeg + n.toNatClampNeg ≤ n1) (K : AW Γ D I P (pc + 3) ls st (cpy g q0 q1 sp.toNatClampNeg dp.toNatClampNeg n.toNatClampNeg)) : AW Γ D I P pc ls (.inl n :: .inl dp :: .inr q1 :: .inl sp :: .inr q0 :: st) g := by
  intro p e s m args below meth c hO H locs lsA hP hS hL
  have ht := hO.2.2.2.2.2.1
  have hnf : nativeFrameWords "java/lang/System" "arraycopy" 5 ≤ 20 := by decide +kernel
  refine va_copyi (f := g q0) (g := g q1) (ty := .int) hO.1 hO.2.1 (hO.2.2.2.1.trans hL.1.symm) hO.2.2.2.2.1 (ht _ (hw _ (by simp))) (ht _ (hw _ (by simp))) (ht _ (hw _ (by simp))) (ht _ (hw _ (by simp))) hO.2.2.2.2.2.2.2.1 hP (wd_D hO.2.2.2.2.2.2.2 g) hS q0 q1 0 0 (by rw [wd_at (aAt_lt h0), aAt_cell h0]) (by rw [wd_at (aAt_lt h1), aAt_cell h1]) rfl rfl rfl hc.1 hc.2.1 hc.2.2.1 hc.2.2.2.1 hc.2.2.2.2 (fun i hi => rfl) hD (by rw [cat_sum]; show _ ≤ 39 * D; omega) hd (fun H1 locs1 z1 z2 z3 => ?_)
  have e1 : (wd Γ g).set q1 (Γ.2.2.2.1 q1, .inl (Γ.2.2.2.2.1 0, n1, .inl (va_cpy (g q0) (g q1) sp.toNatClampNeg dp.toNatClampNeg n.toNatClampNeg))) = wd Γ (cpy g q0 q1 sp.toNatClampNeg dp.toNatClampNeg n.toNatClampNeg) := wd_set (aAt_lt h1) (by rw [aAt_cell h1]; simp [cpy]) (fun a ha => by simp [cpy, ha])
  rw [e1] at z1
  exact K p e s m args below meth c hO H1 locs1 lsA z1 z3 hL
theorem aw_mmin {idx : Nat} {x y : Int32} (hw : ∀ w ∈ ([.methodLink I.2.1 idx Lib.Math.min.name, .static Lib.Math.min.name, .initialized "java/lang/Math", .code Lib.Math.min.name Lib.Math.min.code 2 (some .int)] : List Cond), w ∈ GW) (hD : 1 ≤ D) (hst : st.length ≤ 8) (hd : decode I.1 pc = .ok (.invokestatic idx, 3)) (K : AW Γ D I P (pc + 3) ls (.inl (if y < x then y else x) :: st) g) : AW Γ D I P pc ls (.inl y :: .inl x :: st) g := by
  intro p e s m args below meth c hO H locs lsA hP hS hL
  have ht := hO.2.2.2.2.2.1
  exact va_mmin hO.1 hO.2.1 (hO.2.2.2.1.trans hL.1.symm) hO.2.2.2.2.1 (ht _ (hw _ (by simp))) (ht _ (hw _ (by simp))) (ht _ (hw _ (by simp))) (ht _ (hw _ (by simp))) hD (by rw [cat_sum]; show _ ≤ 39 * D; omega) (Nat.le_refl _) (Nat.le_refl _) hd (K p e s m args below meth c hO H locs lsA hP hS hL)
end AWR
end
section
/-! Calls. -/
def CkM (C : String) (y : MethodName) (J : Mi) (n : Nat) : Prop := (∀ w ∈ ([.instanceMethod y, .selects C y y, .initialized C, .code y J.1 J.2.2.1 J.2.2.2] : List Cond), w ∈ GW) ∧ (y.cls = C ∧ y.cls ≠ "java/lang/invoke/MethodHandle" ∧ y.cls ≠ "java/lang/invoke/VarHandle" ∧ (parseMethodDescriptor y.desc).map (fun d => d.parameters.length) = some n) ∧ J.2.2.1 ≤ 20
def CkS (y : MethodName) (J : Mi) (n : Nat) : Prop := (∀ w ∈ ([.static y, .initialized y.cls, .code y J.1 J.2.2.1 J.2.2.2] : List Cond), w ∈ GW) ∧ (y.cls ≠ "java/lang/invoke/MethodHandle" ∧ y.cls ≠ "java/lang/invoke/VarHandle" ∧ (parseMethodDescriptor y.desc).map (fun d => d.parameters.length) = some n) ∧ J.2.2.1 ≤ 20
theorem gIn {y : MethodName} {J : Mi} (hc : Cond.code y J.1 J.2.2.1 J.2.2.2 ∈ GW) : GoodIn GW (wsG y J) := by
  intro w hw
  rcases List.mem_cons.mp hw with rfl | hw
  · exact ⟨hc, gw_good hc⟩
  · exact ⟨hw, gw_good hw⟩
theorem gApp {a b : List Cond} (ha : ∀ w ∈ a, w ∈ GW) (hb : GoodIn GW b) : GoodIn GW (a ++ b) := fun w h => (List.mem_append.mp h).elim (fun h => ⟨ha w h, gw_good (ha w h)⟩) (hb w)
theorem mapRev (ad : Nat → Nat) (as st : List AV) : (as.reverse ++ st).map (avV ad) = (as.map (avV ad)).reverse ++ st.map (avV ad) := by simp
section AWC
variable {Γ : Gam} {D d : Nat} {I J : Mi} {P : Int32 → Mem → Prop} {pc : Nat} {ls : List (Option AV)} {st stk : List AV} {g : Mem} {y : MethodName} {idx : Nat}
theorem rm_ok (h : d + 1 ≤ D) (hn : J.2.2.1 ≤ 20) : (rmD d).frames + 1 ≤ (rmD D).frames ∧ 8 + (J.2.2.1 + 11) + (rmD d).locals ≤ (rmD D).locals := by
  refine ⟨h, ?_⟩
  show 8 + (J.2.2.1 + 11) + 39 * d ≤ 39 * D
  omega
theorem pre_ok {p : Program} {s : State} {m : MethodId} {args : Array Value} {meth : Method} {c : Code} {H : Heap} {locs : List Loc} (hO : Ok Γ I p s m args meth c) (hP : va_P (dd Γ) vwCl (wd Γ g) H) (hS : va_S (fr Γ) s.heap H locs) (as : List AV) : ∀ U : State, U.heap = H → s.WarmedH U.vm → PcG Γ as g (as.map (avV Γ.2.2.2.1)).toArray U := by
  intro U hU hW
  refine ⟨rfl, by rw [hU]; exact hP, ?_⟩
  rw [hU]
  exact hO.2.2.2.2.2.2.2.warm hW (fun a h1 h2 => hS.2.1 a h1 h2)
theorem recv_ok {p : Program} {s : State} {m : MethodId} {args : Array Value} {meth : Method} {c : Code} {H : Heap} {k ci : Nat} {q : vw_C} (hO : Ok Γ I p s m args meth c) (hP : va_P (dd Γ) vwCl (wd Γ g) H) (hk : cAt k = some ci) (hq : vwCl[ci]? = some q) : ∃ cell : Cell, H[Γ.2.2.2.1 k]? = some cell ∧ cell.vm.isStatics = false ∧ s.vm.findClass q.1 = some cell.cls := by
  obtain ⟨fs, hf⟩ := cAt_cell (Γ := Γ) (g := g) hk
  exact va_recv hO.2.2.2.2.2.2.2.1 hP hq (q0 := k) (by rw [wd_at (cAt_lt hk), hf])
theorem aw_callVi {n : Nat} (hl : Cond.methodLink I.2.1 idx y ∈ GW) {C : String} {T : u_T} {N ci k : Nat} (hM : CkM C y J n) (hk : cAt k = some ci) (hq : vwCl[ci]? = some (C, T, N)) (hdp : d + 1 ≤ D) (as : List AV) (hn : as.length = n) (hst : stk = as.reverse ++ (.inr k :: st)) (hs8 : st.length ≤ 8) (hd : decode I.1 pc = .ok (.invokevirtual idx, 3)) {ty : FieldType} (hr : J.2.2.2 = some ty) (R : Runs Γ d y J (.inr k :: as) g (fun r g' => AW Γ D I P (pc + 3) ls (.inl r :: st) g')) : AW Γ D I P pc ls stk g := by
  intro p e s m args below meth c hO H locs lsA hP hS hL
  subst hst
  have hw := hM.1
  have hcode : Cond.code y J.1 J.2.2.1 J.2.2.2 ∈ GW := hw _ (by simp)
  have ht := hO.2.2.2.2.2.1
  have hcw := cwV (R := rmD D) (s := s) (args := args) (own := I.2.1) (index := idx) (C := C) (y := y) (rm := rmD d) (mc := 0) (ms := 0) n ht (gApp (fun w h => by
      simp only [List.mem_cons, List.not_mem_nil, or_false] at h
      rcases h with rfl | rfl | rfl | rfl
      · exact hl
      · exact hw _ (by simp)
      · exact hw _ (by simp)
      · exact hw _ (by simp)) (gIn hcode)) rfl rfl rfl hM.2.1 (rm_ok hdp hM.2.2)
  unfold Runs QcG at R
  rw [hr] at R
  have hrun := va_runV (e := e) (below := below) (meth := meth) (H := H) (locs := locs) (cells := 0) (slots := 0) (g := F0 m pc lsA ((as.reverse ++ (.inr k :: st)).map (avV Γ.2.2.2.1))) (As := as.map (avV Γ.2.2.2.1)) (rest := st.map (avV Γ.2.2.2.1)) ⟨hO.1, hO.2.1, hO.2.2.2.1, hO.2.2.2.2.1, ht⟩ R hcw ⟨PcG.blind, recv_ok hO hP hk hq, pre_ok hO hP hS (.inr k :: as)⟩ rfl (by rw [List.length_map]; exact hn) hL.1 (by rw [mapRev]; rfl) (lv_room (by rw [cat_sum]; exact hs8)) hd ⟨Nat.le_refl _, Nat.le_refl _⟩
  refine va_calli hrun hS (fun q _ h => h) (fun q h => h) (fun r u t H1 locs1 ht1 hvm hw1 hB hz hk1 hS1 => ?_)
  have hB2 : va_P (dd Γ) vwCl (wd Γ u) t.heap := hB
  rw [ht1] at hB2
  exact hw1 p e s m args below meth c hO H1 locs1 lsA hB2 hS1 hL
theorem aw_callVv {n : Nat} (hl : Cond.methodLink I.2.1 idx y ∈ GW) {C : String} {T : u_T} {N ci k : Nat} (hM : CkM C y J n) (hk : cAt k = some ci) (hq : vwCl[ci]? = some (C, T, N)) (hdp : d + 1 ≤ D) (as : List AV) (hn : as.length = n) (hst : stk = as.reverse ++ (.inr k :: st)) (hs8 : st.length ≤ 8) (hd : decode I.1 pc = .ok (.invokevirtual idx, 3)) (hr : J.2.2.2 = none) (R : Runs Γ d y J (.inr k :: as) g (fun r g' => AW Γ D I P (pc + 3) ls st g')) : AW Γ D I P pc ls stk g := by
  intro p e s m args below meth c hO H locs lsA hP hS hL
  subst hst
  have hw := hM.1
  have hcode : Cond.code y J.1 J.2.2.1 J.2.2.2 ∈ GW := hw _ (by simp)
  have ht := hO.2.2.2.2.2.1
  have hcw := cwV (R := rmD D) (s := s) (args := args) (own := I.2.1) (index := idx) (C := C) (y := y) (rm := rmD d) (mc := 0) (ms := 0) n ht (gApp (fun w h => by
      simp only [List.mem_cons, List.not_mem_nil, or_false] at h
      rcases h with rfl | rfl | rfl | rfl
      · exact hl
      · exact hw _ (by simp)
      · exact hw _ (by simp)
      · exact hw _ (by simp)) (gIn hcode)) rfl rfl rfl hM.2.1 (rm_ok hdp hM.2.2)
  unfold Runs QcG at R
  rw [hr] at R
  have hrun := va_runV (e := e) (below := below) (meth := meth) (H := H) (locs := locs) (cells := 0) (slots := 0) (g := F0 m pc lsA ((as.reverse ++ (.inr k :: st)).map (avV Γ.2.2.2.1))) (As := as.map (avV Γ.2.2.2.1)) (rest := st.map (avV Γ.2.2.2.1)) ⟨hO.1, hO.2.1, hO.2.2.2.1, hO.2.2.2.2.1, ht⟩ R hcw ⟨PcG.blind, recv_ok hO hP hk hq, pre_ok hO hP hS (.inr k :: as)⟩ rfl (by rw [List.length_map]; exact hn) hL.1 (by rw [mapRev]; rfl) (lv_room (by rw [cat_sum]; exact hs8)) hd ⟨Nat.le_refl _, Nat.le_refl _⟩
  refine va_callv hrun hS (fun q _ h => h) (fun q h => h) (fun u t H1 locs1 ht1 hvm hw1 hB hz hk1 hS1 => ?_)
  have hB2 : va_P (dd Γ) vwCl (wd Γ u) t.heap := hB
  rw [ht1] at hB2
  exact hw1 p e s m args below meth c hO H1 locs1 lsA hB2 hS1 hL
theorem aw_callNi {n : Nat} {host : String} (hl : (I.2.1, idx, y, host) ∈ nestL) {C : String} {T : u_T} {N ci k : Nat} (hM : CkM C y J n) (hk : cAt k = some ci) (hq : vwCl[ci]? = some (C, T, N)) (hdp : d + 1 ≤ D) (as : List AV) (hn : as.length = n) (hst : stk = as.reverse ++ (.inr k :: st)) (hs8 : st.length ≤ 8) (hd : decode I.1 pc = .ok (.invokevirtual idx, 3)) {ty : FieldType} (hr : J.2.2.2 = some ty) (R : Runs Γ d y J (.inr k :: as) g (fun r g' => AW Γ D I P (pc + 3) ls (.inl r :: st) g')) : AW Γ D I P pc ls stk g := by
  intro p e s m args below meth c hO H locs lsA hP hS hL
  subst hst
  have hw := hM.1
  have hcode : Cond.code y J.1 J.2.2.1 J.2.2.2 ∈ GW := hw _ (by simp)
  have ht := hO.2.2.2.2.2.1
  obtain ⟨hm1, hm2, hm3⟩ := hM.2.1
  subst hm1
  have hcw := va_cnB (R := rmD D) (s := s) (args := args) (own := I.2.1) (index := idx) (y := y) (host := host) (rm := rmD d) (mc := 0) (ms := 0) n ht (gIn hcode) rfl rfl rfl (hO.2.2.2.2.2.2.2.2.1 _ hl) (ht _ (hw (.initialized y.cls) (by simp))) ⟨hm2, hm3⟩ (rm_ok hdp hM.2.2)
  unfold Runs QcG at R
  rw [hr] at R
  have hrun := va_runVN (e := e) (below := below) (meth := meth) (H := H) (locs := locs) (cells := 0) (slots := 0) (g := F0 m pc lsA ((as.reverse ++ (.inr k :: st)).map (avV Γ.2.2.2.1))) (As := as.map (avV Γ.2.2.2.1)) (rest := st.map (avV Γ.2.2.2.1)) ⟨hO.1, hO.2.1, hO.2.2.2.1, hO.2.2.2.2.1, ht⟩ R ⟨hcw, ht _ (hw (.instanceMethod y) (by simp)), ht _ (hw (.selects y.cls y y) (by simp))⟩ ⟨PcG.blind, recv_ok hO hP hk hq, pre_ok hO hP hS (.inr k :: as)⟩ rfl (by rw [List.length_map]; exact hn) hL.1 (by rw [mapRev]; rfl) (lv_room (by rw [cat_sum]; exact hs8)) hd ⟨Nat.le_refl _, Nat.le_refl _⟩
  refine va_calli hrun hS (fun q _ h => h) (fun q h => h) (fun r u t H1 locs1 ht1 hvm hw1 hB hz hk1 hS1 => ?_)
  have hB2 : va_P (dd Γ) vwCl (wd Γ u) t.heap := hB
  rw [ht1] at hB2
  exact hw1 p e s m args below meth c hO H1 locs1 lsA hB2 hS1 hL
theorem aw_callNv {n : Nat} {host : String} (hl : (I.2.1, idx, y, host) ∈ nestL) {C : String} {T : u_T} {N ci k : Nat} (hM : CkM C y J n) (hk : cAt k = some ci) (hq : vwCl[ci]? = some (C, T, N)) (hdp : d + 1 ≤ D) (as : List AV) (hn : as.length = n) (hst : stk = as.reverse ++ (.inr k :: st)) (hs8 : st.length ≤ 8) (hd : decode I.1 pc = .ok (.invokevirtual idx, 3)) (hr : J.2.2.2 = none) (R : Runs Γ d y J (.inr k :: as) g (fun r g' => AW Γ D I P (pc + 3) ls st g')) : AW Γ D I P pc ls stk g := by
  intro p e s m args below meth c hO H locs lsA hP hS hL
  subst hst
  have hw := hM.1
  have hcode : Cond.code y J.1 J.2.2.1 J.2.2.2 ∈ GW := hw _ (by simp)
  have ht := hO.2.2.2.2.2.1
  obtain ⟨hm1, hm2, hm3⟩ := hM.2.1
  subst hm1
  have hcw := va_cnB (R := rmD D) (s := s) (args := args) (own := I.2.1) (index := idx) (y := y) (host := host) (rm := rmD d) (mc := 0) (ms := 0) n ht (gIn hcode) rfl rfl rfl (hO.2.2.2.2.2.2.2.2.1 _ hl) (ht _ (hw (.initialized y.cls) (by simp))) ⟨hm2, hm3⟩ (rm_ok hdp hM.2.2)
  unfold Runs QcG at R
  rw [hr] at R
  have hrun := va_runVN (e := e) (below := below) (meth := meth) (H := H) (locs := locs) (cells := 0) (slots := 0) (g := F0 m pc lsA ((as.reverse ++ (.inr k :: st)).map (avV Γ.2.2.2.1))) (As := as.map (avV Γ.2.2.2.1)) (rest := st.map (avV Γ.2.2.2.1)) ⟨hO.1, hO.2.1, hO.2.2.2.1, hO.2.2.2.2.1, ht⟩ R ⟨hcw, ht _ (hw (.instanceMethod y) (by simp)), ht _ (hw (.selects y.cls y y) (by simp))⟩ ⟨PcG.blind, recv_ok hO hP hk hq, pre_ok hO hP hS (.inr k :: as)⟩ rfl (by rw [List.length_map]; exact hn) hL.1 (by rw [mapRev]; rfl) (lv_room (by rw [cat_sum]; exact hs8)) hd ⟨Nat.le_refl _, Nat.le_refl _⟩
  refine va_callv hrun hS (fun q _ h => h) (fun q h => h) (fun u t H1 locs1 ht1 hvm hw1 hB hz hk1 hS1 => ?_)
  have hB2 : va_P (dd Γ) vwCl (wd Γ u) t.heap := hB
  rw [ht1] at hB2
  exact hw1 p e s m args below meth c hO H1 locs1 lsA hB2 hS1 hL
theorem aw_callSi {n : Nat} (hl : Cond.methodLink I.2.1 idx y ∈ GW) (hM : CkS y J n) (hdp : d + 1 ≤ D) (as : List AV) (hn : as.length = n) (hst : stk = as.reverse ++ st) (hs8 : st.length ≤ 8) (hd : decode I.1 pc = .ok (.invokestatic idx, 3)) {ty : FieldType} (hr : J.2.2.2 = some ty) (R : Runs Γ d y J as g (fun r g' => AW Γ D I P (pc + 3) ls (.inl r :: st) g')) : AW Γ D I P pc ls stk g := by
  intro p e s m args below meth c hO H locs lsA hP hS hL
  subst hst
  have hw := hM.1
  have hcode : Cond.code y J.1 J.2.2.1 J.2.2.2 ∈ GW := hw _ (by simp)
  have ht := hO.2.2.2.2.2.1
  have hcw := va_cwS (R := rmD D) (s := s) (args := args) (own := I.2.1) (index := idx) (y := y) (rm := rmD d) (mc := 0) (ms := 0) n ht (gApp (fun w h => by
      simp only [List.mem_cons, List.not_mem_nil, or_false] at h
      rcases h with rfl | rfl | rfl
      · exact hl
      · exact hw _ (by simp)
      · exact hw _ (by simp)) (gIn hcode)) rfl rfl rfl hM.2.1 (rm_ok hdp hM.2.2)
  unfold Runs QcG at R
  rw [hr] at R
  have hrun := va_runS (e := e) (below := below) (meth := meth) (H := H) (locs := locs) (cells := 0) (slots := 0) (g := F0 m pc lsA ((as.reverse ++ st).map (avV Γ.2.2.2.1))) (As := as.map (avV Γ.2.2.2.1)) (rest := st.map (avV Γ.2.2.2.1)) ⟨hO.1, hO.2.1, hO.2.2.2.1, hO.2.2.2.2.1, ht⟩ R hcw ⟨PcG.blind, pre_ok hO hP hS as⟩ rfl (by rw [List.length_map]; exact hn) hL.1 (by rw [mapRev]) (lv_room (by rw [cat_sum]; exact hs8)) hd ⟨Nat.le_refl _, Nat.le_refl _⟩
  refine va_calli hrun hS (fun q _ h => h) (fun q h => h) (fun r u t H1 locs1 ht1 hvm hw1 hB hz hk1 hS1 => ?_)
  have hB2 : va_P (dd Γ) vwCl (wd Γ u) t.heap := hB
  rw [ht1] at hB2
  exact hw1 p e s m args below meth c hO H1 locs1 lsA hB2 hS1 hL
theorem aw_callSv {n : Nat} (hl : Cond.methodLink I.2.1 idx y ∈ GW) (hM : CkS y J n) (hdp : d + 1 ≤ D) (as : List AV) (hn : as.length = n) (hst : stk = as.reverse ++ st) (hs8 : st.length ≤ 8) (hd : decode I.1 pc = .ok (.invokestatic idx, 3)) (hr : J.2.2.2 = none) (R : Runs Γ d y J as g (fun r g' => AW Γ D I P (pc + 3) ls st g')) : AW Γ D I P pc ls stk g := by
  intro p e s m args below meth c hO H locs lsA hP hS hL
  subst hst
  have hw := hM.1
  have hcode : Cond.code y J.1 J.2.2.1 J.2.2.2 ∈ GW := hw _ (by simp)
  have ht := hO.2.2.2.2.2.1
  have hcw := va_cwS (R := rmD D) (s := s) (args := args) (own := I.2.1) (index := idx) (y := y) (rm := rmD d) (mc := 0) (ms := 0) n ht (gApp (fun w h => by
      simp only [List.mem_cons, List.not_mem_nil, or_false] at h
      rcases h with rfl | rfl | rfl
      · exact hl
      · exact hw _ (by simp)
      · exact hw _ (by simp)) (gIn hcode)) rfl rfl rfl hM.2.1 (rm_ok hdp hM.2.2)
  unfold Runs QcG at R
  rw [hr] at R
  have hrun := va_runS (e := e) (below := below) (meth := meth) (H := H) (locs := locs) (cells := 0) (slots := 0) (g := F0 m pc lsA ((as.reverse ++ st).map (avV Γ.2.2.2.1))) (As := as.map (avV Γ.2.2.2.1)) (rest := st.map (avV Γ.2.2.2.1)) ⟨hO.1, hO.2.1, hO.2.2.2.1, hO.2.2.2.2.1, ht⟩ R hcw ⟨PcG.blind, pre_ok hO hP hS as⟩ rfl (by rw [List.length_map]; exact hn) hL.1 (by rw [mapRev]) (lv_room (by rw [cat_sum]; exact hs8)) hd ⟨Nat.le_refl _, Nat.le_refl _⟩
  refine va_callv hrun hS (fun q _ h => h) (fun q h => h) (fun u t H1 locs1 ht1 hvm hw1 hB hz hk1 hS1 => ?_)
  have hB2 : va_P (dd Γ) vwCl (wd Γ u) t.heap := hB
  rw [ht1] at hB2
  exact hw1 p e s m args below meth c hO H1 locs1 lsA hB2 hS1 hL
theorem aw_callSNi {n : Nat} {host : String} (hl : (I.2.1, idx, y, host) ∈ nestL) (hM : CkS y J n) (hdp : d + 1 ≤ D) (as : List AV) (hn : as.length = n) (hst : stk = as.reverse ++ st) (hs8 : st.length ≤ 8) (hd : decode I.1 pc = .ok (.invokestatic idx, 3)) {ty : FieldType} (hr : J.2.2.2 = some ty) (R : Runs Γ d y J as g (fun r g' => AW Γ D I P (pc + 3) ls (.inl r :: st) g')) : AW Γ D I P pc ls stk g := by
  intro p e s m args below meth c hO H locs lsA hP hS hL
  subst hst
  have hw := hM.1
  have hcode : Cond.code y J.1 J.2.2.1 J.2.2.2 ∈ GW := hw _ (by simp)
  have ht := hO.2.2.2.2.2.1
  have hcw := va_cnB (R := rmD D) (s := s) (args := args) (own := I.2.1) (index := idx) (y := y) (host := host) (rm := rmD d) (mc := 0) (ms := 0) n ht (gIn hcode) rfl rfl rfl (hO.2.2.2.2.2.2.2.2.1 _ hl) (ht _ (hw (.initialized y.cls) (by simp))) hM.2.1 (rm_ok hdp hM.2.2)
  unfold Runs QcG at R
  rw [hr] at R
  have hrun := va_runSN (e := e) (below := below) (meth := meth) (H := H) (locs := locs) (cells := 0) (slots := 0) (g := F0 m pc lsA ((as.reverse ++ st).map (avV Γ.2.2.2.1))) (As := as.map (avV Γ.2.2.2.1)) (rest := st.map (avV Γ.2.2.2.1)) ⟨hO.1, hO.2.1, hO.2.2.2.1, hO.2.2.2.2.1, ht⟩ R ⟨hcw, ht _ (hw (.static y) (by simp)), trivial⟩ ⟨PcG.blind, pre_ok hO hP hS as⟩ rfl (by rw [List.length_map]; exact hn) hL.1 (by rw [mapRev]) (lv_room (by rw [cat_sum]; exact hs8)) hd ⟨Nat.le_refl _, Nat.le_refl _⟩
  refine va_calli hrun hS (fun q _ h => h) (fun q h => h) (fun r u t H1 locs1 ht1 hvm hw1 hB hz hk1 hS1 => ?_)
  have hB2 : va_P (dd Γ) vwCl (wd Γ u) t.heap := hB
  rw [ht1] at hB2
  exact hw1 p e s m args below meth c hO H1 locs1 lsA hB2 hS1 hL
end AWC
end
section
theorem dX0_countDerived_0 : decode cX0_countDerived 0 = .ok (.aload_n 0, 1) := by decide +kernel
theorem dX0_countDerived_1 : decode cX0_countDerived 1 = .ok (.getfield 37, 3) := by decide +kernel
theorem dX0_countDerived_4 : decode cX0_countDerived 4 = .ok (.iconst 0, 1) := by decide +kernel
theorem dX0_countDerived_5 : decode cX0_countDerived 5 = .ok (.invokestatic 46, 3) := by decide +kernel
theorem dX0_countDerived_8 : decode cX0_countDerived 8 = .ok (.aload_n 0, 1) := by decide +kernel
theorem dX0_countDerived_9 : decode cX0_countDerived 9 = .ok (.iconst 0, 1) := by decide +kernel
theorem dX0_countDerived_10 : decode cX0_countDerived 10 = .ok (.putfield 43, 3) := by decide +kernel
theorem dX0_countDerived_13 : decode cX0_countDerived 13 = .ok (.aload_n 0, 1) := by decide +kernel
theorem dX0_countDerived_14 : decode cX0_countDerived 14 = .ok (.iload_n 1, 1) := by decide +kernel
theorem dX0_countDerived_15 : decode cX0_countDerived 15 = .ok (.invokevirtual 128, 3) := by decide +kernel
theorem dX0_countDerived_18 : decode cX0_countDerived 18 = .ok (.iconst 0, 1) := by decide +kernel
theorem dX0_countDerived_19 : decode cX0_countDerived 19 = .ok (.istore_n 2, 1) := by decide +kernel
theorem dX0_countDerived_20 : decode cX0_countDerived 20 = .ok (.iconst 0, 1) := by decide +kernel
theorem dX0_countDerived_21 : decode cX0_countDerived 21 = .ok (.istore_n 3, 1) := by decide +kernel
theorem dX0_countDerived_22 : decode cX0_countDerived 22 = .ok (.iload_n 3, 1) := by decide +kernel
theorem dX0_countDerived_23 : decode cX0_countDerived 23 = .ok (.aload_n 0, 1) := by decide +kernel
theorem dX0_countDerived_24 : decode cX0_countDerived 24 = .ok (.getfield 43, 3) := by decide +kernel
theorem dX0_countDerived_27 : decode cX0_countDerived 27 = .ok (.if_icmp .ge 58, 3) := by decide +kernel
theorem dX0_countDerived_30 : decode cX0_countDerived 30 = .ok (.iload_n 3, 1) := by decide +kernel
theorem dX0_countDerived_31 : decode cX0_countDerived 31 = .ok (.bipush 100, 2) := by decide +kernel
theorem dX0_countDerived_33 : decode cX0_countDerived 33 = .ok (.if_icmp .ge 52, 3) := by decide +kernel
theorem dX0_countDerived_36 : decode cX0_countDerived 36 = .ok (.aload_n 0, 1) := by decide +kernel
theorem dX0_countDerived_37 : decode cX0_countDerived 37 = .ok (.getfield 40, 3) := by decide +kernel
theorem dX0_countDerived_40 : decode cX0_countDerived 40 = .ok (.iload_n 3, 1) := by decide +kernel
theorem dX0_countDerived_41 : decode cX0_countDerived 41 = .ok (.iaload, 1) := by decide +kernel
theorem dX0_countDerived_42 : decode cX0_countDerived 42 = .ok (.istore 4, 2) := by decide +kernel
theorem dX0_countDerived_44 : decode cX0_countDerived 44 = .ok (.aload_n 0, 1) := by decide +kernel
theorem dX0_countDerived_45 : decode cX0_countDerived 45 = .ok (.getfield 18, 3) := by decide +kernel
theorem dX0_countDerived_48 : decode cX0_countDerived 48 = .ok (.iload 4, 2) := by decide +kernel
theorem dX0_countDerived_50 : decode cX0_countDerived 50 = .ok (.iaload, 1) := by decide +kernel
theorem dX0_countDerived_51 : decode cX0_countDerived 51 = .ok (.ifCond .le 28, 3) := by decide +kernel
theorem dX0_countDerived_54 : decode cX0_countDerived 54 = .ok (.iinc 2 1, 3) := by decide +kernel
theorem dX0_countDerived_57 : decode cX0_countDerived 57 = .ok (.aload_n 0, 1) := by decide +kernel
theorem dX0_countDerived_58 : decode cX0_countDerived 58 = .ok (.aload_n 0, 1) := by decide +kernel
theorem dX0_countDerived_59 : decode cX0_countDerived 59 = .ok (.getfield 27, 3) := by decide +kernel
theorem dX0_countDerived_62 : decode cX0_countDerived 62 = .ok (.iload 4, 2) := by decide +kernel
theorem dX0_countDerived_64 : decode cX0_countDerived 64 = .ok (.iaload, 1) := by decide +kernel
theorem dX0_countDerived_65 : decode cX0_countDerived 65 = .ok (.invokevirtual 128, 3) := by decide +kernel
theorem dX0_countDerived_68 : decode cX0_countDerived 68 = .ok (.aload_n 0, 1) := by decide +kernel
theorem dX0_countDerived_69 : decode cX0_countDerived 69 = .ok (.aload_n 0, 1) := by decide +kernel
theorem dX0_countDerived_70 : decode cX0_countDerived 70 = .ok (.getfield 30, 3) := by decide +kernel
theorem dX0_countDerived_73 : decode cX0_countDerived 73 = .ok (.iload 4, 2) := by decide +kernel
theorem dX0_countDerived_75 : decode cX0_countDerived 75 = .ok (.iaload, 1) := by decide +kernel
theorem dX0_countDerived_76 : decode cX0_countDerived 76 = .ok (.invokevirtual 128, 3) := by decide +kernel
theorem dX0_countDerived_79 : decode cX0_countDerived 79 = .ok (.iinc 3 1, 3) := by decide +kernel
theorem dX0_countDerived_82 : decode cX0_countDerived 82 = .ok (.goto (-60), 3) := by decide +kernel
theorem dX0_countDerived_85 : decode cX0_countDerived 85 = .ok (.iload_n 2, 1) := by decide +kernel
theorem dX0_countDerived_86 : decode cX0_countDerived 86 = .ok (.ireturn, 1) := by decide +kernel
theorem dX0_enqueue_0 : decode cX0_enqueue 0 = .ok (.iload_n 1, 1) := by decide +kernel
theorem dX0_enqueue_1 : decode cX0_enqueue 1 = .ok (.ifCond .lt 27, 3) := by decide +kernel
theorem dX0_enqueue_4 : decode cX0_enqueue 4 = .ok (.iload_n 1, 1) := by decide +kernel
theorem dX0_enqueue_5 : decode cX0_enqueue 5 = .ok (.bipush 100, 2) := by decide +kernel
theorem dX0_enqueue_7 : decode cX0_enqueue 7 = .ok (.if_icmp .ge 21, 3) := by decide +kernel
theorem dX0_enqueue_10 : decode cX0_enqueue 10 = .ok (.aload_n 0, 1) := by decide +kernel
theorem dX0_enqueue_11 : decode cX0_enqueue 11 = .ok (.getfield 37, 3) := by decide +kernel
theorem dX0_enqueue_14 : decode cX0_enqueue 14 = .ok (.iload_n 1, 1) := by decide +kernel
theorem dX0_enqueue_15 : decode cX0_enqueue 15 = .ok (.iaload, 1) := by decide +kernel
theorem dX0_enqueue_16 : decode cX0_enqueue 16 = .ok (.ifCond .ne 12, 3) := by decide +kernel
theorem dX0_enqueue_19 : decode cX0_enqueue 19 = .ok (.aload_n 0, 1) := by decide +kernel
theorem dX0_enqueue_20 : decode cX0_enqueue 20 = .ok (.getfield 43, 3) := by decide +kernel
theorem dX0_enqueue_23 : decode cX0_enqueue 23 = .ok (.bipush 100, 2) := by decide +kernel
theorem dX0_enqueue_25 : decode cX0_enqueue 25 = .ok (.if_icmp .lt 4, 3) := by decide +kernel
theorem dX0_enqueue_28 : decode cX0_enqueue 28 = .ok (.return_, 1) := by decide +kernel
theorem dX0_enqueue_29 : decode cX0_enqueue 29 = .ok (.aload_n 0, 1) := by decide +kernel
theorem dX0_enqueue_30 : decode cX0_enqueue 30 = .ok (.getfield 37, 3) := by decide +kernel
theorem dX0_enqueue_33 : decode cX0_enqueue 33 = .ok (.iload_n 1, 1) := by decide +kernel
theorem dX0_enqueue_34 : decode cX0_enqueue 34 = .ok (.iconst 1, 1) := by decide +kernel
theorem dX0_enqueue_35 : decode cX0_enqueue 35 = .ok (.iastore, 1) := by decide +kernel
theorem dX0_enqueue_36 : decode cX0_enqueue 36 = .ok (.aload_n 0, 1) := by decide +kernel
theorem dX0_enqueue_37 : decode cX0_enqueue 37 = .ok (.getfield 40, 3) := by decide +kernel
theorem dX0_enqueue_40 : decode cX0_enqueue 40 = .ok (.aload_n 0, 1) := by decide +kernel
theorem dX0_enqueue_41 : decode cX0_enqueue 41 = .ok (.getfield 43, 3) := by decide +kernel
theorem dX0_enqueue_44 : decode cX0_enqueue 44 = .ok (.iload_n 1, 1) := by decide +kernel
theorem dX0_enqueue_45 : decode cX0_enqueue 45 = .ok (.iastore, 1) := by decide +kernel
theorem dX0_enqueue_46 : decode cX0_enqueue 46 = .ok (.aload_n 0, 1) := by decide +kernel
theorem dX0_enqueue_47 : decode cX0_enqueue 47 = .ok (.dup, 1) := by decide +kernel
theorem dX0_enqueue_48 : decode cX0_enqueue 48 = .ok (.getfield 43, 3) := by decide +kernel
theorem dX0_enqueue_51 : decode cX0_enqueue 51 = .ok (.iconst 1, 1) := by decide +kernel
theorem dX0_enqueue_52 : decode cX0_enqueue 52 = .ok (.iadd, 1) := by decide +kernel
theorem dX0_enqueue_53 : decode cX0_enqueue 53 = .ok (.putfield 43, 3) := by decide +kernel
theorem dX0_enqueue_56 : decode cX0_enqueue 56 = .ok (.return_, 1) := by decide +kernel
theorem dX0_findAll_0 : decode cX0_findAll 0 = .ok (.aload_n 0, 1) := by decide +kernel
theorem dX0_findAll_1 : decode cX0_findAll 1 = .ok (.getfield 18, 3) := by decide +kernel
theorem dX0_findAll_4 : decode cX0_findAll 4 = .ok (.bipush (-9), 2) := by decide +kernel
theorem dX0_findAll_6 : decode cX0_findAll 6 = .ok (.invokestatic 46, 3) := by decide +kernel
theorem dX0_findAll_9 : decode cX0_findAll 9 = .ok (.aload_n 0, 1) := by decide +kernel
theorem dX0_findAll_10 : decode cX0_findAll 10 = .ok (.getfield 21, 3) := by decide +kernel
theorem dX0_findAll_13 : decode cX0_findAll 13 = .ok (.bipush (-9), 2) := by decide +kernel
theorem dX0_findAll_15 : decode cX0_findAll 15 = .ok (.invokestatic 46, 3) := by decide +kernel
theorem dX0_findAll_18 : decode cX0_findAll 18 = .ok (.aload_n 0, 1) := by decide +kernel
theorem dX0_findAll_19 : decode cX0_findAll 19 = .ok (.getfield 24, 3) := by decide +kernel
theorem dX0_findAll_22 : decode cX0_findAll 22 = .ok (.bipush (-9), 2) := by decide +kernel
theorem dX0_findAll_24 : decode cX0_findAll 24 = .ok (.invokestatic 46, 3) := by decide +kernel
theorem dX0_findAll_27 : decode cX0_findAll 27 = .ok (.aload_n 0, 1) := by decide +kernel
theorem dX0_findAll_28 : decode cX0_findAll 28 = .ok (.getfield 15, 3) := by decide +kernel
theorem dX0_findAll_31 : decode cX0_findAll 31 = .ok (.iconst 0, 1) := by decide +kernel
theorem dX0_findAll_32 : decode cX0_findAll 32 = .ok (.invokestatic 46, 3) := by decide +kernel
theorem dX0_findAll_35 : decode cX0_findAll 35 = .ok (.aload_n 2, 1) := by decide +kernel
theorem dX0_findAll_36 : decode cX0_findAll 36 = .ok (.aload_n 0, 1) := by decide +kernel
theorem dX0_findAll_37 : decode cX0_findAll 37 = .ok (.getfield 9, 3) := by decide +kernel
theorem dX0_findAll_40 : decode cX0_findAll 40 = .ok (.iconst 0, 1) := by decide +kernel
theorem dX0_findAll_41 : decode cX0_findAll 41 = .ok (.invokevirtual 52, 3) := by decide +kernel
theorem dX0_findAll_44 : decode cX0_findAll 44 = .ok (.aload_n 0, 1) := by decide +kernel
theorem dX0_findAll_45 : decode cX0_findAll 45 = .ok (.aload_n 1, 1) := by decide +kernel
theorem dX0_findAll_46 : decode cX0_findAll 46 = .ok (.getfield 57, 3) := by decide +kernel
theorem dX0_findAll_49 : decode cX0_findAll 49 = .ok (.invokevirtual 62, 3) := by decide +kernel
theorem dX0_findAll_52 : decode cX0_findAll 52 = .ok (.aload_n 0, 1) := by decide +kernel
theorem dX0_findAll_53 : decode cX0_findAll 53 = .ok (.iconst 0, 1) := by decide +kernel
theorem dX0_findAll_54 : decode cX0_findAll 54 = .ok (.putfield 33, 3) := by decide +kernel
theorem dX0_findAll_57 : decode cX0_findAll 57 = .ok (.iconst 1, 1) := by decide +kernel
theorem dX0_findAll_58 : decode cX0_findAll 58 = .ok (.istore_n 3, 1) := by decide +kernel
theorem dX0_findAll_59 : decode cX0_findAll 59 = .ok (.iload_n 3, 1) := by decide +kernel
theorem dX0_findAll_60 : decode cX0_findAll 60 = .ok (.bipush 100, 2) := by decide +kernel
theorem dX0_findAll_62 : decode cX0_findAll 62 = .ok (.if_icmp .gt 23, 3) := by decide +kernel
theorem dX0_findAll_65 : decode cX0_findAll 65 = .ok (.aload_n 0, 1) := by decide +kernel
theorem dX0_findAll_66 : decode cX0_findAll 66 = .ok (.aload_n 1, 1) := by decide +kernel
theorem dX0_findAll_67 : decode cX0_findAll 67 = .ok (.iload_n 3, 1) := by decide +kernel
theorem dX0_findAll_68 : decode cX0_findAll 68 = .ok (.invokevirtual 66, 3) := by decide +kernel
theorem dX0_findAll_71 : decode cX0_findAll 71 = .ok (.ifCond .eq 14, 3) := by decide +kernel
theorem dX0_findAll_74 : decode cX0_findAll 74 = .ok (.aload_n 0, 1) := by decide +kernel
theorem dX0_findAll_75 : decode cX0_findAll 75 = .ok (.iload_n 3, 1) := by decide +kernel
theorem dX0_findAll_76 : decode cX0_findAll 76 = .ok (.putfield 33, 3) := by decide +kernel
theorem dX0_findAll_79 : decode cX0_findAll 79 = .ok (.iinc 3 1, 3) := by decide +kernel
theorem dX0_findAll_82 : decode cX0_findAll 82 = .ok (.goto (-23), 3) := by decide +kernel
theorem dX0_findAll_85 : decode cX0_findAll 85 = .ok (.return_, 1) := by decide +kernel
theorem dX0_findEndowment_0 : decode cX0_findEndowment 0 = .ok (.aload_n 1, 1) := by decide +kernel
theorem dX0_findEndowment_1 : decode cX0_findEndowment 1 = .ok (.getfield 122, 3) := by decide +kernel
theorem dX0_findEndowment_4 : decode cX0_findEndowment 4 = .ok (.iload_n 2, 1) := by decide +kernel
theorem dX0_findEndowment_5 : decode cX0_findEndowment 5 = .ok (.iaload, 1) := by decide +kernel
theorem dX0_findEndowment_6 : decode cX0_findEndowment 6 = .ok (.aload_n 0, 1) := by decide +kernel
theorem dX0_findEndowment_7 : decode cX0_findEndowment 7 = .ok (.getfield 15, 3) := by decide +kernel
theorem dX0_findEndowment_10 : decode cX0_findEndowment 10 = .ok (.iload_n 3, 1) := by decide +kernel
theorem dX0_findEndowment_11 : decode cX0_findEndowment 11 = .ok (.iaload, 1) := by decide +kernel
theorem dX0_findEndowment_12 : decode cX0_findEndowment 12 = .ok (.iand, 1) := by decide +kernel
theorem dX0_findEndowment_13 : decode cX0_findEndowment 13 = .ok (.istore 4, 2) := by decide +kernel
theorem dX0_findEndowment_15 : decode cX0_findEndowment 15 = .ok (.iconst 0, 1) := by decide +kernel
theorem dX0_findEndowment_16 : decode cX0_findEndowment 16 = .ok (.istore 5, 2) := by decide +kernel
theorem dX0_findEndowment_18 : decode cX0_findEndowment 18 = .ok (.iload 5, 2) := by decide +kernel
theorem dX0_findEndowment_20 : decode cX0_findEndowment 20 = .ok (.aload_n 1, 1) := by decide +kernel
theorem dX0_findEndowment_21 : decode cX0_findEndowment 21 = .ok (.getfield 57, 3) := by decide +kernel
theorem dX0_findEndowment_24 : decode cX0_findEndowment 24 = .ok (.if_icmp .ge 72, 3) := by decide +kernel
theorem dX0_findEndowment_27 : decode cX0_findEndowment 27 = .ok (.iload 4, 2) := by decide +kernel
theorem dX0_findEndowment_29 : decode cX0_findEndowment 29 = .ok (.iload 5, 2) := by decide +kernel
theorem dX0_findEndowment_31 : decode cX0_findEndowment 31 = .ok (.invokestatic 70, 3) := by decide +kernel
theorem dX0_findEndowment_34 : decode cX0_findEndowment 34 = .ok (.ifCond .ne 6, 3) := by decide +kernel
theorem dX0_findEndowment_37 : decode cX0_findEndowment 37 = .ok (.goto 53, 3) := by decide +kernel
theorem dX0_findEndowment_40 : decode cX0_findEndowment 40 = .ok (.aload_n 0, 1) := by decide +kernel
theorem dX0_findEndowment_41 : decode cX0_findEndowment 41 = .ok (.getfield 15, 3) := by decide +kernel
theorem dX0_findEndowment_44 : decode cX0_findEndowment 44 = .ok (.iload 5, 2) := by decide +kernel
theorem dX0_findEndowment_46 : decode cX0_findEndowment 46 = .ok (.iaload, 1) := by decide +kernel
theorem dX0_findEndowment_47 : decode cX0_findEndowment 47 = .ok (.aload_n 1, 1) := by decide +kernel
theorem dX0_findEndowment_48 : decode cX0_findEndowment 48 = .ok (.getfield 109, 3) := by decide +kernel
theorem dX0_findEndowment_51 : decode cX0_findEndowment 51 = .ok (.iand, 1) := by decide +kernel
theorem dX0_findEndowment_52 : decode cX0_findEndowment 52 = .ok (.invokestatic 102, 3) := by decide +kernel
theorem dX0_findEndowment_55 : decode cX0_findEndowment 55 = .ok (.istore 6, 2) := by decide +kernel
theorem dX0_findEndowment_57 : decode cX0_findEndowment 57 = .ok (.iload 6, 2) := by decide +kernel
theorem dX0_findEndowment_59 : decode cX0_findEndowment 59 = .ok (.iconst (-1), 1) := by decide +kernel
theorem dX0_findEndowment_60 : decode cX0_findEndowment 60 = .ok (.if_icmp .eq 30, 3) := by decide +kernel
theorem dX0_findEndowment_63 : decode cX0_findEndowment 63 = .ok (.aload_n 0, 1) := by decide +kernel
theorem dX0_findEndowment_64 : decode cX0_findEndowment 64 = .ok (.iload_n 2, 1) := by decide +kernel
theorem dX0_findEndowment_65 : decode cX0_findEndowment 65 = .ok (.iload_n 3, 1) := by decide +kernel
theorem dX0_findEndowment_66 : decode cX0_findEndowment 66 = .ok (.invokestatic 74, 3) := by decide +kernel
theorem dX0_findEndowment_69 : decode cX0_findEndowment 69 = .ok (.iconst 5, 1) := by decide +kernel
theorem dX0_findEndowment_70 : decode cX0_findEndowment 70 = .ok (.iload 5, 2) := by decide +kernel
theorem dX0_findEndowment_72 : decode cX0_findEndowment 72 = .ok (.iload 5, 2) := by decide +kernel
theorem dX0_findEndowment_74 : decode cX0_findEndowment 74 = .ok (.iload_n 3, 1) := by decide +kernel
theorem dX0_findEndowment_75 : decode cX0_findEndowment 75 = .ok (.invokestatic 74, 3) := by decide +kernel
theorem dX0_findEndowment_78 : decode cX0_findEndowment 78 = .ok (.iload 6, 2) := by decide +kernel
theorem dX0_findEndowment_80 : decode cX0_findEndowment 80 = .ok (.iload 5, 2) := by decide +kernel
theorem dX0_findEndowment_82 : decode cX0_findEndowment 82 = .ok (.invokestatic 74, 3) := by decide +kernel
theorem dX0_findEndowment_85 : decode cX0_findEndowment 85 = .ok (.invokevirtual 105, 3) := by decide +kernel
theorem dX0_findEndowment_88 : decode cX0_findEndowment 88 = .ok (.iconst 1, 1) := by decide +kernel
theorem dX0_findEndowment_89 : decode cX0_findEndowment 89 = .ok (.ireturn, 1) := by decide +kernel
theorem dX0_findEndowment_90 : decode cX0_findEndowment 90 = .ok (.iinc 5 1, 3) := by decide +kernel
theorem dX0_findEndowment_93 : decode cX0_findEndowment 93 = .ok (.goto (-75), 3) := by decide +kernel
theorem dX0_findEndowment_96 : decode cX0_findEndowment 96 = .ok (.iconst 0, 1) := by decide +kernel
theorem dX0_findEndowment_97 : decode cX0_findEndowment 97 = .ok (.ireturn, 1) := by decide +kernel
theorem dX0_findGift_0 : decode cX0_findGift 0 = .ok (.aload_n 1, 1) := by decide +kernel
theorem dX0_findGift_1 : decode cX0_findGift 1 = .ok (.getfield 96, 3) := by decide +kernel
theorem dX0_findGift_4 : decode cX0_findGift 4 = .ok (.iload_n 2, 1) := by decide +kernel
theorem dX0_findGift_5 : decode cX0_findGift 5 = .ok (.invokestatic 70, 3) := by decide +kernel
theorem dX0_findGift_8 : decode cX0_findGift 8 = .ok (.ifCond .ne 5, 3) := by decide +kernel
theorem dX0_findGift_11 : decode cX0_findGift 11 = .ok (.iconst 0, 1) := by decide +kernel
theorem dX0_findGift_12 : decode cX0_findGift 12 = .ok (.ireturn, 1) := by decide +kernel
theorem dX0_findGift_13 : decode cX0_findGift 13 = .ok (.aload_n 1, 1) := by decide +kernel
theorem dX0_findGift_14 : decode cX0_findGift 14 = .ok (.getfield 99, 3) := by decide +kernel
theorem dX0_findGift_17 : decode cX0_findGift 17 = .ok (.aload_n 0, 1) := by decide +kernel
theorem dX0_findGift_18 : decode cX0_findGift 18 = .ok (.getfield 15, 3) := by decide +kernel
theorem dX0_findGift_21 : decode cX0_findGift 21 = .ok (.iload_n 2, 1) := by decide +kernel
theorem dX0_findGift_22 : decode cX0_findGift 22 = .ok (.iaload, 1) := by decide +kernel
theorem dX0_findGift_23 : decode cX0_findGift 23 = .ok (.iand, 1) := by decide +kernel
theorem dX0_findGift_24 : decode cX0_findGift 24 = .ok (.aload_n 0, 1) := by decide +kernel
theorem dX0_findGift_25 : decode cX0_findGift 25 = .ok (.getfield 15, 3) := by decide +kernel
theorem dX0_findGift_28 : decode cX0_findGift 28 = .ok (.iload_n 3, 1) := by decide +kernel
theorem dX0_findGift_29 : decode cX0_findGift 29 = .ok (.iaload, 1) := by decide +kernel
theorem dX0_findGift_30 : decode cX0_findGift 30 = .ok (.iload_n 3, 1) := by decide +kernel
theorem dX0_findGift_31 : decode cX0_findGift 31 = .ok (.invokestatic 78, 3) := by decide +kernel
theorem dX0_findGift_34 : decode cX0_findGift 34 = .ok (.ior, 1) := by decide +kernel
theorem dX0_findGift_35 : decode cX0_findGift 35 = .ok (.iand, 1) := by decide +kernel
theorem dX0_findGift_36 : decode cX0_findGift 36 = .ok (.invokestatic 102, 3) := by decide +kernel
theorem dX0_findGift_39 : decode cX0_findGift 39 = .ok (.istore 4, 2) := by decide +kernel
theorem dX0_findGift_41 : decode cX0_findGift 41 = .ok (.iload 4, 2) := by decide +kernel
theorem dX0_findGift_43 : decode cX0_findGift 43 = .ok (.iconst (-1), 1) := by decide +kernel
theorem dX0_findGift_44 : decode cX0_findGift 44 = .ok (.if_icmp .ne 5, 3) := by decide +kernel
theorem dX0_findGift_47 : decode cX0_findGift 47 = .ok (.iconst 0, 1) := by decide +kernel
theorem dX0_findGift_48 : decode cX0_findGift 48 = .ok (.ireturn, 1) := by decide +kernel
theorem dX0_findGift_49 : decode cX0_findGift 49 = .ok (.iload 4, 2) := by decide +kernel
theorem dX0_findGift_51 : decode cX0_findGift 51 = .ok (.iload_n 3, 1) := by decide +kernel
theorem dX0_findGift_52 : decode cX0_findGift 52 = .ok (.if_icmp .ne 7, 3) := by decide +kernel
theorem dX0_findGift_55 : decode cX0_findGift 55 = .ok (.iconst (-1), 1) := by decide +kernel
theorem dX0_findGift_56 : decode cX0_findGift 56 = .ok (.goto 9, 3) := by decide +kernel
theorem dX0_findGift_59 : decode cX0_findGift 59 = .ok (.iload 4, 2) := by decide +kernel
theorem dX0_findGift_61 : decode cX0_findGift 61 = .ok (.iload_n 3, 1) := by decide +kernel
theorem dX0_findGift_62 : decode cX0_findGift 62 = .ok (.invokestatic 74, 3) := by decide +kernel
theorem dX0_findGift_65 : decode cX0_findGift 65 = .ok (.istore 5, 2) := by decide +kernel
theorem dX0_findGift_67 : decode cX0_findGift 67 = .ok (.aload_n 0, 1) := by decide +kernel
theorem dX0_findGift_68 : decode cX0_findGift 68 = .ok (.iload_n 2, 1) := by decide +kernel
theorem dX0_findGift_69 : decode cX0_findGift 69 = .ok (.iload_n 3, 1) := by decide +kernel
theorem dX0_findGift_70 : decode cX0_findGift 70 = .ok (.invokestatic 74, 3) := by decide +kernel
theorem dX0_findGift_73 : decode cX0_findGift 73 = .ok (.iconst 1, 1) := by decide +kernel
theorem dX0_findGift_74 : decode cX0_findGift 74 = .ok (.iload 4, 2) := by decide +kernel
theorem dX0_findGift_76 : decode cX0_findGift 76 = .ok (.iload 4, 2) := by decide +kernel
theorem dX0_findGift_78 : decode cX0_findGift 78 = .ok (.iload_n 2, 1) := by decide +kernel
theorem dX0_findGift_79 : decode cX0_findGift 79 = .ok (.invokestatic 74, 3) := by decide +kernel
theorem dX0_findGift_82 : decode cX0_findGift 82 = .ok (.iload 5, 2) := by decide +kernel
theorem dX0_findGift_84 : decode cX0_findGift 84 = .ok (.invokevirtual 105, 3) := by decide +kernel
theorem dX0_findGift_87 : decode cX0_findGift 87 = .ok (.iconst 1, 1) := by decide +kernel
theorem dX0_findGift_88 : decode cX0_findGift 88 = .ok (.ireturn, 1) := by decide +kernel
theorem dX0_findInitial_0 : decode cX0_findInitial 0 = .ok (.iconst 0, 1) := by decide +kernel
theorem dX0_findInitial_1 : decode cX0_findInitial 1 = .ok (.istore_n 2, 1) := by decide +kernel
theorem dX0_findInitial_2 : decode cX0_findInitial 2 = .ok (.iload_n 2, 1) := by decide +kernel
theorem dX0_findInitial_3 : decode cX0_findInitial 3 = .ok (.iload_n 1, 1) := by decide +kernel
theorem dX0_findInitial_4 : decode cX0_findInitial 4 = .ok (.if_icmp .ge 70, 3) := by decide +kernel
theorem dX0_findInitial_7 : decode cX0_findInitial 7 = .ok (.iconst 0, 1) := by decide +kernel
theorem dX0_findInitial_8 : decode cX0_findInitial 8 = .ok (.istore_n 3, 1) := by decide +kernel
theorem dX0_findInitial_9 : decode cX0_findInitial 9 = .ok (.iload_n 3, 1) := by decide +kernel
theorem dX0_findInitial_10 : decode cX0_findInitial 10 = .ok (.iload_n 1, 1) := by decide +kernel
theorem dX0_findInitial_11 : decode cX0_findInitial 11 = .ok (.if_icmp .ge 57, 3) := by decide +kernel
theorem dX0_findInitial_14 : decode cX0_findInitial 14 = .ok (.aload_n 0, 1) := by decide +kernel
theorem dX0_findInitial_15 : decode cX0_findInitial 15 = .ok (.getfield 9, 3) := by decide +kernel
theorem dX0_findInitial_18 : decode cX0_findInitial 18 = .ok (.iload_n 2, 1) := by decide +kernel
theorem dX0_findInitial_19 : decode cX0_findInitial 19 = .ok (.iaload, 1) := by decide +kernel
theorem dX0_findInitial_20 : decode cX0_findInitial 20 = .ok (.iload_n 3, 1) := by decide +kernel
theorem dX0_findInitial_21 : decode cX0_findInitial 21 = .ok (.invokestatic 70, 3) := by decide +kernel
theorem dX0_findInitial_24 : decode cX0_findInitial 24 = .ok (.ifCond .eq 38, 3) := by decide +kernel
theorem dX0_findInitial_27 : decode cX0_findInitial 27 = .ok (.aload_n 0, 1) := by decide +kernel
theorem dX0_findInitial_28 : decode cX0_findInitial 28 = .ok (.getfield 18, 3) := by decide +kernel
theorem dX0_findInitial_31 : decode cX0_findInitial 31 = .ok (.iload_n 2, 1) := by decide +kernel
theorem dX0_findInitial_32 : decode cX0_findInitial 32 = .ok (.iload_n 3, 1) := by decide +kernel
theorem dX0_findInitial_33 : decode cX0_findInitial 33 = .ok (.invokestatic 74, 3) := by decide +kernel
theorem dX0_findInitial_36 : decode cX0_findInitial 36 = .ok (.iconst 0, 1) := by decide +kernel
theorem dX0_findInitial_37 : decode cX0_findInitial 37 = .ok (.iastore, 1) := by decide +kernel
theorem dX0_findInitial_38 : decode cX0_findInitial 38 = .ok (.aload_n 0, 1) := by decide +kernel
theorem dX0_findInitial_39 : decode cX0_findInitial 39 = .ok (.getfield 21, 3) := by decide +kernel
theorem dX0_findInitial_42 : decode cX0_findInitial 42 = .ok (.iload_n 2, 1) := by decide +kernel
theorem dX0_findInitial_43 : decode cX0_findInitial 43 = .ok (.iload_n 3, 1) := by decide +kernel
theorem dX0_findInitial_44 : decode cX0_findInitial 44 = .ok (.invokestatic 74, 3) := by decide +kernel
theorem dX0_findInitial_47 : decode cX0_findInitial 47 = .ok (.iconst 0, 1) := by decide +kernel
theorem dX0_findInitial_48 : decode cX0_findInitial 48 = .ok (.iastore, 1) := by decide +kernel
theorem dX0_findInitial_49 : decode cX0_findInitial 49 = .ok (.aload_n 0, 1) := by decide +kernel
theorem dX0_findInitial_50 : decode cX0_findInitial 50 = .ok (.getfield 15, 3) := by decide +kernel
theorem dX0_findInitial_53 : decode cX0_findInitial 53 = .ok (.iload_n 3, 1) := by decide +kernel
theorem dX0_findInitial_54 : decode cX0_findInitial 54 = .ok (.dup2, 1) := by decide +kernel
theorem dX0_findInitial_55 : decode cX0_findInitial 55 = .ok (.iaload, 1) := by decide +kernel
theorem dX0_findInitial_56 : decode cX0_findInitial 56 = .ok (.iload_n 2, 1) := by decide +kernel
theorem dX0_findInitial_57 : decode cX0_findInitial 57 = .ok (.invokestatic 78, 3) := by decide +kernel
theorem dX0_findInitial_60 : decode cX0_findInitial 60 = .ok (.ior, 1) := by decide +kernel
theorem dX0_findInitial_61 : decode cX0_findInitial 61 = .ok (.iastore, 1) := by decide +kernel
theorem dX0_findInitial_62 : decode cX0_findInitial 62 = .ok (.iinc 3 1, 3) := by decide +kernel
theorem dX0_findInitial_65 : decode cX0_findInitial 65 = .ok (.goto (-56), 3) := by decide +kernel
theorem dX0_findInitial_68 : decode cX0_findInitial 68 = .ok (.iinc 2 1, 3) := by decide +kernel
theorem dX0_findInitial_71 : decode cX0_findInitial 71 = .ok (.goto (-69), 3) := by decide +kernel
theorem dX0_findInitial_74 : decode cX0_findInitial 74 = .ok (.return_, 1) := by decide +kernel
theorem dX0_findOpenBox_0 : decode cX0_findOpenBox 0 = .ok (.aload_n 0, 1) := by decide +kernel
theorem dX0_findOpenBox_1 : decode cX0_findOpenBox 1 = .ok (.getfield 9, 3) := by decide +kernel
theorem dX0_findOpenBox_4 : decode cX0_findOpenBox 4 = .ok (.iload_n 2, 1) := by decide +kernel
theorem dX0_findOpenBox_5 : decode cX0_findOpenBox 5 = .ok (.iaload, 1) := by decide +kernel
theorem dX0_findOpenBox_6 : decode cX0_findOpenBox 6 = .ok (.aload_n 1, 1) := by decide +kernel
theorem dX0_findOpenBox_7 : decode cX0_findOpenBox 7 = .ok (.getfield 125, 3) := by decide +kernel
theorem dX0_findOpenBox_10 : decode cX0_findOpenBox 10 = .ok (.iload_n 3, 1) := by decide +kernel
theorem dX0_findOpenBox_11 : decode cX0_findOpenBox 11 = .ok (.iaload, 1) := by decide +kernel
theorem dX0_findOpenBox_12 : decode cX0_findOpenBox 12 = .ok (.iand, 1) := by decide +kernel
theorem dX0_findOpenBox_13 : decode cX0_findOpenBox 13 = .ok (.istore 4, 2) := by decide +kernel
theorem dX0_findOpenBox_15 : decode cX0_findOpenBox 15 = .ok (.iconst 0, 1) := by decide +kernel
theorem dX0_findOpenBox_16 : decode cX0_findOpenBox 16 = .ok (.istore 5, 2) := by decide +kernel
theorem dX0_findOpenBox_18 : decode cX0_findOpenBox 18 = .ok (.iload 5, 2) := by decide +kernel
theorem dX0_findOpenBox_20 : decode cX0_findOpenBox 20 = .ok (.aload_n 1, 1) := by decide +kernel
theorem dX0_findOpenBox_21 : decode cX0_findOpenBox 21 = .ok (.getfield 57, 3) := by decide +kernel
theorem dX0_findOpenBox_24 : decode cX0_findOpenBox 24 = .ok (.if_icmp .ge 39, 3) := by decide +kernel
theorem dX0_findOpenBox_27 : decode cX0_findOpenBox 27 = .ok (.iload 4, 2) := by decide +kernel
theorem dX0_findOpenBox_29 : decode cX0_findOpenBox 29 = .ok (.iload 5, 2) := by decide +kernel
theorem dX0_findOpenBox_31 : decode cX0_findOpenBox 31 = .ok (.invokestatic 70, 3) := by decide +kernel
theorem dX0_findOpenBox_34 : decode cX0_findOpenBox 34 = .ok (.ifCond .eq 23, 3) := by decide +kernel
theorem dX0_findOpenBox_37 : decode cX0_findOpenBox 37 = .ok (.aload_n 0, 1) := by decide +kernel
theorem dX0_findOpenBox_38 : decode cX0_findOpenBox 38 = .ok (.getfield 9, 3) := by decide +kernel
theorem dX0_findOpenBox_41 : decode cX0_findOpenBox 41 = .ok (.iload_n 2, 1) := by decide +kernel
theorem dX0_findOpenBox_42 : decode cX0_findOpenBox 42 = .ok (.iaload, 1) := by decide +kernel
theorem dX0_findOpenBox_43 : decode cX0_findOpenBox 43 = .ok (.aload_n 1, 1) := by decide +kernel
theorem dX0_findOpenBox_44 : decode cX0_findOpenBox 44 = .ok (.getfield 119, 3) := by decide +kernel
theorem dX0_findOpenBox_47 : decode cX0_findOpenBox 47 = .ok (.iload 5, 2) := by decide +kernel
theorem dX0_findOpenBox_49 : decode cX0_findOpenBox 49 = .ok (.iaload, 1) := by decide +kernel
theorem dX0_findOpenBox_50 : decode cX0_findOpenBox 50 = .ok (.iand, 1) := by decide +kernel
theorem dX0_findOpenBox_51 : decode cX0_findOpenBox 51 = .ok (.ifCond .eq 6, 3) := by decide +kernel
theorem dX0_findOpenBox_54 : decode cX0_findOpenBox 54 = .ok (.iload 5, 2) := by decide +kernel
theorem dX0_findOpenBox_56 : decode cX0_findOpenBox 56 = .ok (.ireturn, 1) := by decide +kernel
theorem dX0_findOpenBox_57 : decode cX0_findOpenBox 57 = .ok (.iinc 5 1, 3) := by decide +kernel
theorem dX0_findOpenBox_60 : decode cX0_findOpenBox 60 = .ok (.goto (-42), 3) := by decide +kernel
theorem dX0_findOpenBox_63 : decode cX0_findOpenBox 63 = .ok (.iconst (-1), 1) := by decide +kernel
theorem dX0_findOpenBox_64 : decode cX0_findOpenBox 64 = .ok (.ireturn, 1) := by decide +kernel
theorem dX0_findRound_0 : decode cX0_findRound 0 = .ok (.iconst 0, 1) := by decide +kernel
theorem dX0_findRound_1 : decode cX0_findRound 1 = .ok (.istore_n 3, 1) := by decide +kernel
theorem dX0_findRound_2 : decode cX0_findRound 2 = .ok (.iconst 0, 1) := by decide +kernel
theorem dX0_findRound_3 : decode cX0_findRound 3 = .ok (.istore 4, 2) := by decide +kernel
theorem dX0_findRound_5 : decode cX0_findRound 5 = .ok (.iload 4, 2) := by decide +kernel
theorem dX0_findRound_7 : decode cX0_findRound 7 = .ok (.aload_n 1, 1) := by decide +kernel
theorem dX0_findRound_8 : decode cX0_findRound 8 = .ok (.getfield 57, 3) := by decide +kernel
theorem dX0_findRound_11 : decode cX0_findRound 11 = .ok (.if_icmp .ge 98, 3) := by decide +kernel
theorem dX0_findRound_14 : decode cX0_findRound 14 = .ok (.iconst 0, 1) := by decide +kernel
theorem dX0_findRound_15 : decode cX0_findRound 15 = .ok (.istore 5, 2) := by decide +kernel
theorem dX0_findRound_17 : decode cX0_findRound 17 = .ok (.iload 5, 2) := by decide +kernel
theorem dX0_findRound_19 : decode cX0_findRound 19 = .ok (.aload_n 1, 1) := by decide +kernel
theorem dX0_findRound_20 : decode cX0_findRound 20 = .ok (.getfield 57, 3) := by decide +kernel
theorem dX0_findRound_23 : decode cX0_findRound 23 = .ok (.if_icmp .ge 80, 3) := by decide +kernel
theorem dX0_findRound_26 : decode cX0_findRound 26 = .ok (.aload_n 0, 1) := by decide +kernel
theorem dX0_findRound_27 : decode cX0_findRound 27 = .ok (.getfield 18, 3) := by decide +kernel
theorem dX0_findRound_30 : decode cX0_findRound 30 = .ok (.iload 4, 2) := by decide +kernel
theorem dX0_findRound_32 : decode cX0_findRound 32 = .ok (.iload 5, 2) := by decide +kernel
theorem dX0_findRound_34 : decode cX0_findRound 34 = .ok (.invokestatic 74, 3) := by decide +kernel
theorem dX0_findRound_37 : decode cX0_findRound 37 = .ok (.iaload, 1) := by decide +kernel
theorem dX0_findRound_38 : decode cX0_findRound 38 = .ok (.bipush (-9), 2) := by decide +kernel
theorem dX0_findRound_40 : decode cX0_findRound 40 = .ok (.if_icmp .eq 6, 3) := by decide +kernel
theorem dX0_findRound_43 : decode cX0_findRound 43 = .ok (.goto 54, 3) := by decide +kernel
theorem dX0_findRound_46 : decode cX0_findRound 46 = .ok (.aload_n 0, 1) := by decide +kernel
theorem dX0_findRound_47 : decode cX0_findRound 47 = .ok (.aload_n 1, 1) := by decide +kernel
theorem dX0_findRound_48 : decode cX0_findRound 48 = .ok (.iload 4, 2) := by decide +kernel
theorem dX0_findRound_50 : decode cX0_findRound 50 = .ok (.iload 5, 2) := by decide +kernel
theorem dX0_findRound_52 : decode cX0_findRound 52 = .ok (.invokevirtual 82, 3) := by decide +kernel
theorem dX0_findRound_55 : decode cX0_findRound 55 = .ok (.ifCond .ne 27, 3) := by decide +kernel
theorem dX0_findRound_58 : decode cX0_findRound 58 = .ok (.aload_n 0, 1) := by decide +kernel
theorem dX0_findRound_59 : decode cX0_findRound 59 = .ok (.aload_n 1, 1) := by decide +kernel
theorem dX0_findRound_60 : decode cX0_findRound 60 = .ok (.iload 4, 2) := by decide +kernel
theorem dX0_findRound_62 : decode cX0_findRound 62 = .ok (.iload 5, 2) := by decide +kernel
theorem dX0_findRound_64 : decode cX0_findRound 64 = .ok (.invokevirtual 86, 3) := by decide +kernel
theorem dX0_findRound_67 : decode cX0_findRound 67 = .ok (.ifCond .ne 15, 3) := by decide +kernel
theorem dX0_findRound_70 : decode cX0_findRound 70 = .ok (.aload_n 0, 1) := by decide +kernel
theorem dX0_findRound_71 : decode cX0_findRound 71 = .ok (.aload_n 1, 1) := by decide +kernel
theorem dX0_findRound_72 : decode cX0_findRound 72 = .ok (.iload 4, 2) := by decide +kernel
theorem dX0_findRound_74 : decode cX0_findRound 74 = .ok (.iload 5, 2) := by decide +kernel
theorem dX0_findRound_76 : decode cX0_findRound 76 = .ok (.invokevirtual 89, 3) := by decide +kernel
theorem dX0_findRound_79 : decode cX0_findRound 79 = .ok (.ifCond .eq 18, 3) := by decide +kernel
theorem dX0_findRound_82 : decode cX0_findRound 82 = .ok (.aload_n 0, 1) := by decide +kernel
theorem dX0_findRound_83 : decode cX0_findRound 83 = .ok (.getfield 18, 3) := by decide +kernel
theorem dX0_findRound_86 : decode cX0_findRound 86 = .ok (.iload 4, 2) := by decide +kernel
theorem dX0_findRound_88 : decode cX0_findRound 88 = .ok (.iload 5, 2) := by decide +kernel
theorem dX0_findRound_90 : decode cX0_findRound 90 = .ok (.invokestatic 74, 3) := by decide +kernel
theorem dX0_findRound_93 : decode cX0_findRound 93 = .ok (.iload_n 2, 1) := by decide +kernel
theorem dX0_findRound_94 : decode cX0_findRound 94 = .ok (.iastore, 1) := by decide +kernel
theorem dX0_findRound_95 : decode cX0_findRound 95 = .ok (.iconst 1, 1) := by decide +kernel
theorem dX0_findRound_96 : decode cX0_findRound 96 = .ok (.istore_n 3, 1) := by decide +kernel
theorem dX0_findRound_97 : decode cX0_findRound 97 = .ok (.iinc 5 1, 3) := by decide +kernel
theorem dX0_findRound_100 : decode cX0_findRound 100 = .ok (.goto (-83), 3) := by decide +kernel
theorem dX0_findRound_103 : decode cX0_findRound 103 = .ok (.iinc 4 1, 3) := by decide +kernel
theorem dX0_findRound_106 : decode cX0_findRound 106 = .ok (.goto (-101), 3) := by decide +kernel
theorem dX0_findRound_109 : decode cX0_findRound 109 = .ok (.aload_n 0, 1) := by decide +kernel
theorem dX0_findRound_110 : decode cX0_findRound 110 = .ok (.aload_n 1, 1) := by decide +kernel
theorem dX0_findRound_111 : decode cX0_findRound 111 = .ok (.getfield 57, 3) := by decide +kernel
theorem dX0_findRound_114 : decode cX0_findRound 114 = .ok (.iload_n 2, 1) := by decide +kernel
theorem dX0_findRound_115 : decode cX0_findRound 115 = .ok (.invokevirtual 92, 3) := by decide +kernel
theorem dX0_findRound_118 : decode cX0_findRound 118 = .ok (.iload_n 3, 1) := by decide +kernel
theorem dX0_findRound_119 : decode cX0_findRound 119 = .ok (.ireturn, 1) := by decide +kernel
theorem dX0_findTaking_0 : decode cX0_findTaking 0 = .ok (.aload_n 1, 1) := by decide +kernel
theorem dX0_findTaking_1 : decode cX0_findTaking 1 = .ok (.getfield 109, 3) := by decide +kernel
theorem dX0_findTaking_4 : decode cX0_findTaking 4 = .ok (.iload_n 2, 1) := by decide +kernel
theorem dX0_findTaking_5 : decode cX0_findTaking 5 = .ok (.invokestatic 70, 3) := by decide +kernel
theorem dX0_findTaking_8 : decode cX0_findTaking 8 = .ok (.ifCond .ne 5, 3) := by decide +kernel
theorem dX0_findTaking_11 : decode cX0_findTaking 11 = .ok (.iconst 0, 1) := by decide +kernel
theorem dX0_findTaking_12 : decode cX0_findTaking 12 = .ok (.ireturn, 1) := by decide +kernel
theorem dX0_findTaking_13 : decode cX0_findTaking 13 = .ok (.aload_n 0, 1) := by decide +kernel
theorem dX0_findTaking_14 : decode cX0_findTaking 14 = .ok (.getfield 9, 3) := by decide +kernel
theorem dX0_findTaking_17 : decode cX0_findTaking 17 = .ok (.iload_n 2, 1) := by decide +kernel
theorem dX0_findTaking_18 : decode cX0_findTaking 18 = .ok (.iaload, 1) := by decide +kernel
theorem dX0_findTaking_19 : decode cX0_findTaking 19 = .ok (.aload_n 1, 1) := by decide +kernel
theorem dX0_findTaking_20 : decode cX0_findTaking 20 = .ok (.getfield 112, 3) := by decide +kernel
theorem dX0_findTaking_23 : decode cX0_findTaking 23 = .ok (.iand, 1) := by decide +kernel
theorem dX0_findTaking_24 : decode cX0_findTaking 24 = .ok (.aload_n 0, 1) := by decide +kernel
theorem dX0_findTaking_25 : decode cX0_findTaking 25 = .ok (.getfield 15, 3) := by decide +kernel
theorem dX0_findTaking_28 : decode cX0_findTaking 28 = .ok (.iload_n 3, 1) := by decide +kernel
theorem dX0_findTaking_29 : decode cX0_findTaking 29 = .ok (.iaload, 1) := by decide +kernel
theorem dX0_findTaking_30 : decode cX0_findTaking 30 = .ok (.iand, 1) := by decide +kernel
theorem dX0_findTaking_31 : decode cX0_findTaking 31 = .ok (.invokestatic 102, 3) := by decide +kernel
theorem dX0_findTaking_34 : decode cX0_findTaking 34 = .ok (.istore 4, 2) := by decide +kernel
theorem dX0_findTaking_36 : decode cX0_findTaking 36 = .ok (.iload 4, 2) := by decide +kernel
theorem dX0_findTaking_38 : decode cX0_findTaking 38 = .ok (.iconst (-1), 1) := by decide +kernel
theorem dX0_findTaking_39 : decode cX0_findTaking 39 = .ok (.if_icmp .eq 29, 3) := by decide +kernel
theorem dX0_findTaking_42 : decode cX0_findTaking 42 = .ok (.aload_n 0, 1) := by decide +kernel
theorem dX0_findTaking_43 : decode cX0_findTaking 43 = .ok (.iload_n 2, 1) := by decide +kernel
theorem dX0_findTaking_44 : decode cX0_findTaking 44 = .ok (.iload_n 3, 1) := by decide +kernel
theorem dX0_findTaking_45 : decode cX0_findTaking 45 = .ok (.invokestatic 74, 3) := by decide +kernel
theorem dX0_findTaking_48 : decode cX0_findTaking 48 = .ok (.iconst 2, 1) := by decide +kernel
theorem dX0_findTaking_49 : decode cX0_findTaking 49 = .ok (.iload 4, 2) := by decide +kernel
theorem dX0_findTaking_51 : decode cX0_findTaking 51 = .ok (.iload_n 2, 1) := by decide +kernel
theorem dX0_findTaking_52 : decode cX0_findTaking 52 = .ok (.iload 4, 2) := by decide +kernel
theorem dX0_findTaking_54 : decode cX0_findTaking 54 = .ok (.invokestatic 74, 3) := by decide +kernel
theorem dX0_findTaking_57 : decode cX0_findTaking 57 = .ok (.iload 4, 2) := by decide +kernel
theorem dX0_findTaking_59 : decode cX0_findTaking 59 = .ok (.iload_n 3, 1) := by decide +kernel
theorem dX0_findTaking_60 : decode cX0_findTaking 60 = .ok (.invokestatic 74, 3) := by decide +kernel
theorem dX0_findTaking_63 : decode cX0_findTaking 63 = .ok (.invokevirtual 105, 3) := by decide +kernel
theorem dX0_findTaking_66 : decode cX0_findTaking 66 = .ok (.iconst 1, 1) := by decide +kernel
theorem dX0_findTaking_67 : decode cX0_findTaking 67 = .ok (.ireturn, 1) := by decide +kernel
theorem dX0_findTaking_68 : decode cX0_findTaking 68 = .ok (.aload_n 0, 1) := by decide +kernel
theorem dX0_findTaking_69 : decode cX0_findTaking 69 = .ok (.aload_n 1, 1) := by decide +kernel
theorem dX0_findTaking_70 : decode cX0_findTaking 70 = .ok (.iload_n 2, 1) := by decide +kernel
theorem dX0_findTaking_71 : decode cX0_findTaking 71 = .ok (.iload_n 3, 1) := by decide +kernel
theorem dX0_findTaking_72 : decode cX0_findTaking 72 = .ok (.invokevirtual 115, 3) := by decide +kernel
theorem dX0_findTaking_75 : decode cX0_findTaking 75 = .ok (.istore 5, 2) := by decide +kernel
theorem dX0_findTaking_77 : decode cX0_findTaking 77 = .ok (.iload 5, 2) := by decide +kernel
theorem dX0_findTaking_79 : decode cX0_findTaking 79 = .ok (.iconst (-1), 1) := by decide +kernel
theorem dX0_findTaking_80 : decode cX0_findTaking 80 = .ok (.if_icmp .eq 48, 3) := by decide +kernel
theorem dX0_findTaking_83 : decode cX0_findTaking 83 = .ok (.aload_n 0, 1) := by decide +kernel
theorem dX0_findTaking_84 : decode cX0_findTaking 84 = .ok (.getfield 9, 3) := by decide +kernel
theorem dX0_findTaking_87 : decode cX0_findTaking 87 = .ok (.iload_n 2, 1) := by decide +kernel
theorem dX0_findTaking_88 : decode cX0_findTaking 88 = .ok (.iaload, 1) := by decide +kernel
theorem dX0_findTaking_89 : decode cX0_findTaking 89 = .ok (.aload_n 1, 1) := by decide +kernel
theorem dX0_findTaking_90 : decode cX0_findTaking 90 = .ok (.getfield 119, 3) := by decide +kernel
theorem dX0_findTaking_93 : decode cX0_findTaking 93 = .ok (.iload 5, 2) := by decide +kernel
theorem dX0_findTaking_95 : decode cX0_findTaking 95 = .ok (.iaload, 1) := by decide +kernel
theorem dX0_findTaking_96 : decode cX0_findTaking 96 = .ok (.iand, 1) := by decide +kernel
theorem dX0_findTaking_97 : decode cX0_findTaking 97 = .ok (.invokestatic 102, 3) := by decide +kernel
theorem dX0_findTaking_100 : decode cX0_findTaking 100 = .ok (.istore 6, 2) := by decide +kernel
theorem dX0_findTaking_102 : decode cX0_findTaking 102 = .ok (.aload_n 0, 1) := by decide +kernel
theorem dX0_findTaking_103 : decode cX0_findTaking 103 = .ok (.iload_n 2, 1) := by decide +kernel
theorem dX0_findTaking_104 : decode cX0_findTaking 104 = .ok (.iload_n 3, 1) := by decide +kernel
theorem dX0_findTaking_105 : decode cX0_findTaking 105 = .ok (.invokestatic 74, 3) := by decide +kernel
theorem dX0_findTaking_108 : decode cX0_findTaking 108 = .ok (.iconst 3, 1) := by decide +kernel
theorem dX0_findTaking_109 : decode cX0_findTaking 109 = .ok (.iload 5, 2) := by decide +kernel
theorem dX0_findTaking_111 : decode cX0_findTaking 111 = .ok (.iload_n 2, 1) := by decide +kernel
theorem dX0_findTaking_112 : decode cX0_findTaking 112 = .ok (.iload 5, 2) := by decide +kernel
theorem dX0_findTaking_114 : decode cX0_findTaking 114 = .ok (.invokestatic 74, 3) := by decide +kernel
theorem dX0_findTaking_117 : decode cX0_findTaking 117 = .ok (.iload_n 2, 1) := by decide +kernel
theorem dX0_findTaking_118 : decode cX0_findTaking 118 = .ok (.iload 6, 2) := by decide +kernel
theorem dX0_findTaking_120 : decode cX0_findTaking 120 = .ok (.invokestatic 74, 3) := by decide +kernel
theorem dX0_findTaking_123 : decode cX0_findTaking 123 = .ok (.invokevirtual 105, 3) := by decide +kernel
theorem dX0_findTaking_126 : decode cX0_findTaking 126 = .ok (.iconst 1, 1) := by decide +kernel
theorem dX0_findTaking_127 : decode cX0_findTaking 127 = .ok (.ireturn, 1) := by decide +kernel
theorem dX0_findTaking_128 : decode cX0_findTaking 128 = .ok (.aload_n 0, 1) := by decide +kernel
theorem dX0_findTaking_129 : decode cX0_findTaking 129 = .ok (.getfield 9, 3) := by decide +kernel
theorem dX0_findTaking_132 : decode cX0_findTaking 132 = .ok (.iload_n 2, 1) := by decide +kernel
theorem dX0_findTaking_133 : decode cX0_findTaking 133 = .ok (.iaload, 1) := by decide +kernel
theorem dX0_findTaking_134 : decode cX0_findTaking 134 = .ok (.aload_n 1, 1) := by decide +kernel
theorem dX0_findTaking_135 : decode cX0_findTaking 135 = .ok (.getfield 122, 3) := by decide +kernel
theorem dX0_findTaking_138 : decode cX0_findTaking 138 = .ok (.iload_n 3, 1) := by decide +kernel
theorem dX0_findTaking_139 : decode cX0_findTaking 139 = .ok (.iaload, 1) := by decide +kernel
theorem dX0_findTaking_140 : decode cX0_findTaking 140 = .ok (.iand, 1) := by decide +kernel
theorem dX0_findTaking_141 : decode cX0_findTaking 141 = .ok (.invokestatic 102, 3) := by decide +kernel
theorem dX0_findTaking_144 : decode cX0_findTaking 144 = .ok (.istore 6, 2) := by decide +kernel
theorem dX0_findTaking_146 : decode cX0_findTaking 146 = .ok (.iload 6, 2) := by decide +kernel
theorem dX0_findTaking_148 : decode cX0_findTaking 148 = .ok (.iconst (-1), 1) := by decide +kernel
theorem dX0_findTaking_149 : decode cX0_findTaking 149 = .ok (.if_icmp .eq 24, 3) := by decide +kernel
theorem dX0_findTaking_152 : decode cX0_findTaking 152 = .ok (.aload_n 0, 1) := by decide +kernel
theorem dX0_findTaking_153 : decode cX0_findTaking 153 = .ok (.iload_n 2, 1) := by decide +kernel
theorem dX0_findTaking_154 : decode cX0_findTaking 154 = .ok (.iload_n 3, 1) := by decide +kernel
theorem dX0_findTaking_155 : decode cX0_findTaking 155 = .ok (.invokestatic 74, 3) := by decide +kernel
theorem dX0_findTaking_158 : decode cX0_findTaking 158 = .ok (.iconst 4, 1) := by decide +kernel
theorem dX0_findTaking_159 : decode cX0_findTaking 159 = .ok (.iload 6, 2) := by decide +kernel
theorem dX0_findTaking_161 : decode cX0_findTaking 161 = .ok (.iload_n 2, 1) := by decide +kernel
theorem dX0_findTaking_162 : decode cX0_findTaking 162 = .ok (.iload 6, 2) := by decide +kernel
theorem dX0_findTaking_164 : decode cX0_findTaking 164 = .ok (.invokestatic 74, 3) := by decide +kernel
theorem dX0_findTaking_167 : decode cX0_findTaking 167 = .ok (.iconst (-1), 1) := by decide +kernel
theorem dX0_findTaking_168 : decode cX0_findTaking 168 = .ok (.invokevirtual 105, 3) := by decide +kernel
theorem dX0_findTaking_171 : decode cX0_findTaking 171 = .ok (.iconst 1, 1) := by decide +kernel
theorem dX0_findTaking_172 : decode cX0_findTaking 172 = .ok (.ireturn, 1) := by decide +kernel
theorem dX0_findTaking_173 : decode cX0_findTaking 173 = .ok (.iconst 0, 1) := by decide +kernel
theorem dX0_findTaking_174 : decode cX0_findTaking 174 = .ok (.ireturn, 1) := by decide +kernel
theorem dX0_init_0 : decode cX0_init 0 = .ok (.aload_n 0, 1) := by decide +kernel
theorem dX0_init_1 : decode cX0_init 1 = .ok (.invokespecial 3, 3) := by decide +kernel
theorem dX0_init_4 : decode cX0_init 4 = .ok (.aload_n 0, 1) := by decide +kernel
theorem dX0_init_5 : decode cX0_init 5 = .ok (.bipush 10, 2) := by decide +kernel
theorem dX0_init_7 : decode cX0_init 7 = .ok (.newarray .int, 2) := by decide +kernel
theorem dX0_init_9 : decode cX0_init 9 = .ok (.putfield 9, 3) := by decide +kernel
theorem dX0_init_12 : decode cX0_init 12 = .ok (.aload_n 0, 1) := by decide +kernel
theorem dX0_init_13 : decode cX0_init 13 = .ok (.bipush 10, 2) := by decide +kernel
theorem dX0_init_15 : decode cX0_init 15 = .ok (.newarray .int, 2) := by decide +kernel
theorem dX0_init_17 : decode cX0_init 17 = .ok (.putfield 15, 3) := by decide +kernel
theorem dX0_init_20 : decode cX0_init 20 = .ok (.aload_n 0, 1) := by decide +kernel
theorem dX0_init_21 : decode cX0_init 21 = .ok (.bipush 100, 2) := by decide +kernel
theorem dX0_init_23 : decode cX0_init 23 = .ok (.newarray .int, 2) := by decide +kernel
theorem dX0_init_25 : decode cX0_init 25 = .ok (.putfield 18, 3) := by decide +kernel
theorem dX0_init_28 : decode cX0_init 28 = .ok (.aload_n 0, 1) := by decide +kernel
theorem dX0_init_29 : decode cX0_init 29 = .ok (.bipush 100, 2) := by decide +kernel
theorem dX0_init_31 : decode cX0_init 31 = .ok (.newarray .int, 2) := by decide +kernel
theorem dX0_init_33 : decode cX0_init 33 = .ok (.putfield 21, 3) := by decide +kernel
theorem dX0_init_36 : decode cX0_init 36 = .ok (.aload_n 0, 1) := by decide +kernel
theorem dX0_init_37 : decode cX0_init 37 = .ok (.bipush 100, 2) := by decide +kernel
theorem dX0_init_39 : decode cX0_init 39 = .ok (.newarray .int, 2) := by decide +kernel
theorem dX0_init_41 : decode cX0_init 41 = .ok (.putfield 24, 3) := by decide +kernel
theorem dX0_init_44 : decode cX0_init 44 = .ok (.aload_n 0, 1) := by decide +kernel
theorem dX0_init_45 : decode cX0_init 45 = .ok (.bipush 100, 2) := by decide +kernel
theorem dX0_init_47 : decode cX0_init 47 = .ok (.newarray .int, 2) := by decide +kernel
theorem dX0_init_49 : decode cX0_init 49 = .ok (.putfield 27, 3) := by decide +kernel
theorem dX0_init_52 : decode cX0_init 52 = .ok (.aload_n 0, 1) := by decide +kernel
theorem dX0_init_53 : decode cX0_init 53 = .ok (.bipush 100, 2) := by decide +kernel
theorem dX0_init_55 : decode cX0_init 55 = .ok (.newarray .int, 2) := by decide +kernel
theorem dX0_init_57 : decode cX0_init 57 = .ok (.putfield 30, 3) := by decide +kernel
theorem dX0_init_60 : decode cX0_init 60 = .ok (.aload_n 0, 1) := by decide +kernel
theorem dX0_init_61 : decode cX0_init 61 = .ok (.iconst 0, 1) := by decide +kernel
theorem dX0_init_62 : decode cX0_init 62 = .ok (.putfield 33, 3) := by decide +kernel
theorem dX0_init_65 : decode cX0_init 65 = .ok (.aload_n 0, 1) := by decide +kernel
theorem dX0_init_66 : decode cX0_init 66 = .ok (.bipush 100, 2) := by decide +kernel
theorem dX0_init_68 : decode cX0_init 68 = .ok (.newarray .int, 2) := by decide +kernel
theorem dX0_init_70 : decode cX0_init 70 = .ok (.putfield 37, 3) := by decide +kernel
theorem dX0_init_73 : decode cX0_init 73 = .ok (.aload_n 0, 1) := by decide +kernel
theorem dX0_init_74 : decode cX0_init 74 = .ok (.bipush 100, 2) := by decide +kernel
theorem dX0_init_76 : decode cX0_init 76 = .ok (.newarray .int, 2) := by decide +kernel
theorem dX0_init_78 : decode cX0_init 78 = .ok (.putfield 40, 3) := by decide +kernel
theorem dX0_init_81 : decode cX0_init 81 = .ok (.aload_n 0, 1) := by decide +kernel
theorem dX0_init_82 : decode cX0_init 82 = .ok (.iconst 0, 1) := by decide +kernel
theorem dX0_init_83 : decode cX0_init 83 = .ok (.putfield 43, 3) := by decide +kernel
theorem dX0_init_86 : decode cX0_init 86 = .ok (.return_, 1) := by decide +kernel
theorem dX0_publish_0 : decode cX0_publish 0 = .ok (.iconst 0, 1) := by decide +kernel
theorem dX0_publish_1 : decode cX0_publish 1 = .ok (.istore_n 3, 1) := by decide +kernel
theorem dX0_publish_2 : decode cX0_publish 2 = .ok (.iload_n 3, 1) := by decide +kernel
theorem dX0_publish_3 : decode cX0_publish 3 = .ok (.iload_n 1, 1) := by decide +kernel
theorem dX0_publish_4 : decode cX0_publish 4 = .ok (.if_icmp .ge 67, 3) := by decide +kernel
theorem dX0_publish_7 : decode cX0_publish 7 = .ok (.iconst 0, 1) := by decide +kernel
theorem dX0_publish_8 : decode cX0_publish 8 = .ok (.istore 4, 2) := by decide +kernel
theorem dX0_publish_10 : decode cX0_publish 10 = .ok (.iload 4, 2) := by decide +kernel
theorem dX0_publish_12 : decode cX0_publish 12 = .ok (.iload_n 1, 1) := by decide +kernel
theorem dX0_publish_13 : decode cX0_publish 13 = .ok (.if_icmp .ge 52, 3) := by decide +kernel
theorem dX0_publish_16 : decode cX0_publish 16 = .ok (.aload_n 0, 1) := by decide +kernel
theorem dX0_publish_17 : decode cX0_publish 17 = .ok (.getfield 18, 3) := by decide +kernel
theorem dX0_publish_20 : decode cX0_publish 20 = .ok (.iload_n 3, 1) := by decide +kernel
theorem dX0_publish_21 : decode cX0_publish 21 = .ok (.iload 4, 2) := by decide +kernel
theorem dX0_publish_23 : decode cX0_publish 23 = .ok (.invokestatic 74, 3) := by decide +kernel
theorem dX0_publish_26 : decode cX0_publish 26 = .ok (.iaload, 1) := by decide +kernel
theorem dX0_publish_27 : decode cX0_publish 27 = .ok (.iload_n 2, 1) := by decide +kernel
theorem dX0_publish_28 : decode cX0_publish 28 = .ok (.if_icmp .ne 31, 3) := by decide +kernel
theorem dX0_publish_31 : decode cX0_publish 31 = .ok (.aload_n 0, 1) := by decide +kernel
theorem dX0_publish_32 : decode cX0_publish 32 = .ok (.getfield 9, 3) := by decide +kernel
theorem dX0_publish_35 : decode cX0_publish 35 = .ok (.iload_n 3, 1) := by decide +kernel
theorem dX0_publish_36 : decode cX0_publish 36 = .ok (.dup2, 1) := by decide +kernel
theorem dX0_publish_37 : decode cX0_publish 37 = .ok (.iaload, 1) := by decide +kernel
theorem dX0_publish_38 : decode cX0_publish 38 = .ok (.iload 4, 2) := by decide +kernel
theorem dX0_publish_40 : decode cX0_publish 40 = .ok (.invokestatic 78, 3) := by decide +kernel
theorem dX0_publish_43 : decode cX0_publish 43 = .ok (.ior, 1) := by decide +kernel
theorem dX0_publish_44 : decode cX0_publish 44 = .ok (.iastore, 1) := by decide +kernel
theorem dX0_publish_45 : decode cX0_publish 45 = .ok (.aload_n 0, 1) := by decide +kernel
theorem dX0_publish_46 : decode cX0_publish 46 = .ok (.getfield 15, 3) := by decide +kernel
theorem dX0_publish_49 : decode cX0_publish 49 = .ok (.iload 4, 2) := by decide +kernel
theorem dX0_publish_51 : decode cX0_publish 51 = .ok (.dup2, 1) := by decide +kernel
theorem dX0_publish_52 : decode cX0_publish 52 = .ok (.iaload, 1) := by decide +kernel
theorem dX0_publish_53 : decode cX0_publish 53 = .ok (.iload_n 3, 1) := by decide +kernel
theorem dX0_publish_54 : decode cX0_publish 54 = .ok (.invokestatic 78, 3) := by decide +kernel
theorem dX0_publish_57 : decode cX0_publish 57 = .ok (.ior, 1) := by decide +kernel
theorem dX0_publish_58 : decode cX0_publish 58 = .ok (.iastore, 1) := by decide +kernel
theorem dX0_publish_59 : decode cX0_publish 59 = .ok (.iinc 4 1, 3) := by decide +kernel
theorem dX0_publish_62 : decode cX0_publish 62 = .ok (.goto (-52), 3) := by decide +kernel
theorem dX0_publish_65 : decode cX0_publish 65 = .ok (.iinc 3 1, 3) := by decide +kernel
theorem dX0_publish_68 : decode cX0_publish 68 = .ok (.goto (-66), 3) := by decide +kernel
theorem dX0_publish_71 : decode cX0_publish 71 = .ok (.return_, 1) := by decide +kernel
theorem dX0_setCause_0 : decode cX0_setCause 0 = .ok (.aload_n 0, 1) := by decide +kernel
theorem dX0_setCause_1 : decode cX0_setCause 1 = .ok (.getfield 21, 3) := by decide +kernel
theorem dX0_setCause_4 : decode cX0_setCause 4 = .ok (.iload_n 1, 1) := by decide +kernel
theorem dX0_setCause_5 : decode cX0_setCause 5 = .ok (.iload_n 2, 1) := by decide +kernel
theorem dX0_setCause_6 : decode cX0_setCause 6 = .ok (.iastore, 1) := by decide +kernel
theorem dX0_setCause_7 : decode cX0_setCause 7 = .ok (.aload_n 0, 1) := by decide +kernel
theorem dX0_setCause_8 : decode cX0_setCause 8 = .ok (.getfield 24, 3) := by decide +kernel
theorem dX0_setCause_11 : decode cX0_setCause 11 = .ok (.iload_n 1, 1) := by decide +kernel
theorem dX0_setCause_12 : decode cX0_setCause 12 = .ok (.iload_n 3, 1) := by decide +kernel
theorem dX0_setCause_13 : decode cX0_setCause 13 = .ok (.iastore, 1) := by decide +kernel
theorem dX0_setCause_14 : decode cX0_setCause 14 = .ok (.aload_n 0, 1) := by decide +kernel
theorem dX0_setCause_15 : decode cX0_setCause 15 = .ok (.getfield 27, 3) := by decide +kernel
theorem dX0_setCause_18 : decode cX0_setCause 18 = .ok (.iload_n 1, 1) := by decide +kernel
theorem dX0_setCause_19 : decode cX0_setCause 19 = .ok (.iload 4, 2) := by decide +kernel
theorem dX0_setCause_21 : decode cX0_setCause 21 = .ok (.iastore, 1) := by decide +kernel
theorem dX0_setCause_22 : decode cX0_setCause 22 = .ok (.aload_n 0, 1) := by decide +kernel
theorem dX0_setCause_23 : decode cX0_setCause 23 = .ok (.getfield 30, 3) := by decide +kernel
theorem dX0_setCause_26 : decode cX0_setCause 26 = .ok (.iload_n 1, 1) := by decide +kernel
theorem dX0_setCause_27 : decode cX0_setCause 27 = .ok (.iload 5, 2) := by decide +kernel
theorem dX0_setCause_29 : decode cX0_setCause 29 = .ok (.iastore, 1) := by decide +kernel
theorem dX0_setCause_30 : decode cX0_setCause 30 = .ok (.return_, 1) := by decide +kernel
theorem dX1_applyRules_0 : decode cX1_applyRules 0 = .ok (.aload_n 1, 1) := by decide +kernel
theorem dX1_applyRules_1 : decode cX1_applyRules 1 = .ok (.getfield 38, 3) := by decide +kernel
theorem dX1_applyRules_4 : decode cX1_applyRules 4 = .ok (.iload_n 2, 1) := by decide +kernel
theorem dX1_applyRules_5 : decode cX1_applyRules 5 = .ok (.invokestatic 41, 3) := by decide +kernel
theorem dX1_applyRules_8 : decode cX1_applyRules 8 = .ok (.istore_n 3, 1) := by decide +kernel
theorem dX1_applyRules_9 : decode cX1_applyRules 9 = .ok (.aload_n 1, 1) := by decide +kernel
theorem dX1_applyRules_10 : decode cX1_applyRules 10 = .ok (.getfield 45, 3) := by decide +kernel
theorem dX1_applyRules_13 : decode cX1_applyRules 13 = .ok (.iload_n 2, 1) := by decide +kernel
theorem dX1_applyRules_14 : decode cX1_applyRules 14 = .ok (.invokestatic 41, 3) := by decide +kernel
theorem dX1_applyRules_17 : decode cX1_applyRules 17 = .ok (.istore 4, 2) := by decide +kernel
theorem dX1_applyRules_19 : decode cX1_applyRules 19 = .ok (.iconst 0, 1) := by decide +kernel
theorem dX1_applyRules_20 : decode cX1_applyRules 20 = .ok (.istore 5, 2) := by decide +kernel
theorem dX1_applyRules_22 : decode cX1_applyRules 22 = .ok (.iload 5, 2) := by decide +kernel
theorem dX1_applyRules_24 : decode cX1_applyRules 24 = .ok (.aload_n 1, 1) := by decide +kernel
theorem dX1_applyRules_25 : decode cX1_applyRules 25 = .ok (.getfield 25, 3) := by decide +kernel
theorem dX1_applyRules_28 : decode cX1_applyRules 28 = .ok (.if_icmp .ge 72, 3) := by decide +kernel
theorem dX1_applyRules_31 : decode cX1_applyRules 31 = .ok (.aload_n 0, 1) := by decide +kernel
theorem dX1_applyRules_32 : decode cX1_applyRules 32 = .ok (.getfield 9, 3) := by decide +kernel
theorem dX1_applyRules_35 : decode cX1_applyRules 35 = .ok (.iload_n 2, 1) := by decide +kernel
theorem dX1_applyRules_36 : decode cX1_applyRules 36 = .ok (.iaload, 1) := by decide +kernel
theorem dX1_applyRules_37 : decode cX1_applyRules 37 = .ok (.iload 5, 2) := by decide +kernel
theorem dX1_applyRules_39 : decode cX1_applyRules 39 = .ok (.invokestatic 41, 3) := by decide +kernel
theorem dX1_applyRules_42 : decode cX1_applyRules 42 = .ok (.ifCond .ne 6, 3) := by decide +kernel
theorem dX1_applyRules_45 : decode cX1_applyRules 45 = .ok (.goto 49, 3) := by decide +kernel
theorem dX1_applyRules_48 : decode cX1_applyRules 48 = .ok (.iload_n 3, 1) := by decide +kernel
theorem dX1_applyRules_49 : decode cX1_applyRules 49 = .ok (.ifCond .eq 32, 3) := by decide +kernel
theorem dX1_applyRules_52 : decode cX1_applyRules 52 = .ok (.aload_n 1, 1) := by decide +kernel
theorem dX1_applyRules_53 : decode cX1_applyRules 53 = .ok (.getfield 48, 3) := by decide +kernel
theorem dX1_applyRules_56 : decode cX1_applyRules 56 = .ok (.iload 5, 2) := by decide +kernel
theorem dX1_applyRules_58 : decode cX1_applyRules 58 = .ok (.invokestatic 41, 3) := by decide +kernel
theorem dX1_applyRules_61 : decode cX1_applyRules 61 = .ok (.ifCond .eq 20, 3) := by decide +kernel
theorem dX1_applyRules_64 : decode cX1_applyRules 64 = .ok (.aload_n 0, 1) := by decide +kernel
theorem dX1_applyRules_65 : decode cX1_applyRules 65 = .ok (.iload 5, 2) := by decide +kernel
theorem dX1_applyRules_67 : decode cX1_applyRules 67 = .ok (.aload_n 0, 1) := by decide +kernel
theorem dX1_applyRules_68 : decode cX1_applyRules 68 = .ok (.getfield 9, 3) := by decide +kernel
theorem dX1_applyRules_71 : decode cX1_applyRules 71 = .ok (.iload_n 2, 1) := by decide +kernel
theorem dX1_applyRules_72 : decode cX1_applyRules 72 = .ok (.iaload, 1) := by decide +kernel
theorem dX1_applyRules_73 : decode cX1_applyRules 73 = .ok (.iload_n 2, 1) := by decide +kernel
theorem dX1_applyRules_74 : decode cX1_applyRules 74 = .ok (.invokestatic 51, 3) := by decide +kernel
theorem dX1_applyRules_77 : decode cX1_applyRules 77 = .ok (.ior, 1) := by decide +kernel
theorem dX1_applyRules_78 : decode cX1_applyRules 78 = .ok (.invokevirtual 55, 3) := by decide +kernel
theorem dX1_applyRules_81 : decode cX1_applyRules 81 = .ok (.iload 4, 2) := by decide +kernel
theorem dX1_applyRules_83 : decode cX1_applyRules 83 = .ok (.ifCond .eq 11, 3) := by decide +kernel
theorem dX1_applyRules_86 : decode cX1_applyRules 86 = .ok (.aload_n 0, 1) := by decide +kernel
theorem dX1_applyRules_87 : decode cX1_applyRules 87 = .ok (.aload_n 1, 1) := by decide +kernel
theorem dX1_applyRules_88 : decode cX1_applyRules 88 = .ok (.iload_n 2, 1) := by decide +kernel
theorem dX1_applyRules_89 : decode cX1_applyRules 89 = .ok (.iload 5, 2) := by decide +kernel
theorem dX1_applyRules_91 : decode cX1_applyRules 91 = .ok (.invokevirtual 59, 3) := by decide +kernel
theorem dX1_applyRules_94 : decode cX1_applyRules 94 = .ok (.iinc 5 1, 3) := by decide +kernel
theorem dX1_applyRules_97 : decode cX1_applyRules 97 = .ok (.goto (-75), 3) := by decide +kernel
theorem dX1_applyRules_100 : decode cX1_applyRules 100 = .ok (.return_, 1) := by decide +kernel
theorem dX1_close_0 : decode cX1_close 0 = .ok (.aload_n 0, 1) := by decide +kernel
theorem dX1_close_1 : decode cX1_close 1 = .ok (.iconst 1, 1) := by decide +kernel
theorem dX1_close_2 : decode cX1_close 2 = .ok (.putfield 15, 3) := by decide +kernel
theorem dX1_close_5 : decode cX1_close 5 = .ok (.iconst 0, 1) := by decide +kernel
theorem dX1_close_6 : decode cX1_close 6 = .ok (.istore_n 3, 1) := by decide +kernel
theorem dX1_close_7 : decode cX1_close 7 = .ok (.iload_n 3, 1) := by decide +kernel
theorem dX1_close_8 : decode cX1_close 8 = .ok (.bipush 100, 2) := by decide +kernel
theorem dX1_close_10 : decode cX1_close 10 = .ok (.if_icmp .gt 57, 3) := by decide +kernel
theorem dX1_close_13 : decode cX1_close 13 = .ok (.aload_n 0, 1) := by decide +kernel
theorem dX1_close_14 : decode cX1_close 14 = .ok (.getfield 15, 3) := by decide +kernel
theorem dX1_close_17 : decode cX1_close 17 = .ok (.ifCond .eq 50, 3) := by decide +kernel
theorem dX1_close_20 : decode cX1_close 20 = .ok (.aload_n 0, 1) := by decide +kernel
theorem dX1_close_21 : decode cX1_close 21 = .ok (.iconst 0, 1) := by decide +kernel
theorem dX1_close_22 : decode cX1_close 22 = .ok (.putfield 15, 3) := by decide +kernel
theorem dX1_close_25 : decode cX1_close 25 = .ok (.iconst 0, 1) := by decide +kernel
theorem dX1_close_26 : decode cX1_close 26 = .ok (.istore 4, 2) := by decide +kernel
theorem dX1_close_28 : decode cX1_close 28 = .ok (.iload 4, 2) := by decide +kernel
theorem dX1_close_30 : decode cX1_close 30 = .ok (.aload_n 1, 1) := by decide +kernel
theorem dX1_close_31 : decode cX1_close 31 = .ok (.getfield 25, 3) := by decide +kernel
theorem dX1_close_34 : decode cX1_close 34 = .ok (.if_icmp .ge 27, 3) := by decide +kernel
theorem dX1_close_37 : decode cX1_close 37 = .ok (.aload_n 0, 1) := by decide +kernel
theorem dX1_close_38 : decode cX1_close 38 = .ok (.aload_n 1, 1) := by decide +kernel
theorem dX1_close_39 : decode cX1_close 39 = .ok (.iload 4, 2) := by decide +kernel
theorem dX1_close_41 : decode cX1_close 41 = .ok (.invokevirtual 31, 3) := by decide +kernel
theorem dX1_close_44 : decode cX1_close 44 = .ok (.iload_n 2, 1) := by decide +kernel
theorem dX1_close_45 : decode cX1_close 45 = .ok (.ifCond .eq 10, 3) := by decide +kernel
theorem dX1_close_48 : decode cX1_close 48 = .ok (.aload_n 0, 1) := by decide +kernel
theorem dX1_close_49 : decode cX1_close 49 = .ok (.aload_n 1, 1) := by decide +kernel
theorem dX1_close_50 : decode cX1_close 50 = .ok (.iload 4, 2) := by decide +kernel
theorem dX1_close_52 : decode cX1_close 52 = .ok (.invokevirtual 35, 3) := by decide +kernel
theorem dX1_close_55 : decode cX1_close 55 = .ok (.iinc 4 1, 3) := by decide +kernel
theorem dX1_close_58 : decode cX1_close 58 = .ok (.goto (-30), 3) := by decide +kernel
theorem dX1_close_61 : decode cX1_close 61 = .ok (.iinc 3 1, 3) := by decide +kernel
theorem dX1_close_64 : decode cX1_close 64 = .ok (.goto (-57), 3) := by decide +kernel
theorem dX1_close_67 : decode cX1_close 67 = .ok (.return_, 1) := by decide +kernel
theorem dX1_grant_0 : decode cX1_grant 0 = .ok (.iload_n 2, 1) := by decide +kernel
theorem dX1_grant_1 : decode cX1_grant 1 = .ok (.aload_n 0, 1) := by decide +kernel
theorem dX1_grant_2 : decode cX1_grant 2 = .ok (.getfield 9, 3) := by decide +kernel
theorem dX1_grant_5 : decode cX1_grant 5 = .ok (.iload_n 1, 1) := by decide +kernel
theorem dX1_grant_6 : decode cX1_grant 6 = .ok (.iaload, 1) := by decide +kernel
theorem dX1_grant_7 : decode cX1_grant 7 = .ok (.iconst (-1), 1) := by decide +kernel
theorem dX1_grant_8 : decode cX1_grant 8 = .ok (.ixor, 1) := by decide +kernel
theorem dX1_grant_9 : decode cX1_grant 9 = .ok (.iand, 1) := by decide +kernel
theorem dX1_grant_10 : decode cX1_grant 10 = .ok (.ifCond .eq 18, 3) := by decide +kernel
theorem dX1_grant_13 : decode cX1_grant 13 = .ok (.aload_n 0, 1) := by decide +kernel
theorem dX1_grant_14 : decode cX1_grant 14 = .ok (.getfield 9, 3) := by decide +kernel
theorem dX1_grant_17 : decode cX1_grant 17 = .ok (.iload_n 1, 1) := by decide +kernel
theorem dX1_grant_18 : decode cX1_grant 18 = .ok (.dup2, 1) := by decide +kernel
theorem dX1_grant_19 : decode cX1_grant 19 = .ok (.iaload, 1) := by decide +kernel
theorem dX1_grant_20 : decode cX1_grant 20 = .ok (.iload_n 2, 1) := by decide +kernel
theorem dX1_grant_21 : decode cX1_grant 21 = .ok (.ior, 1) := by decide +kernel
theorem dX1_grant_22 : decode cX1_grant 22 = .ok (.iastore, 1) := by decide +kernel
theorem dX1_grant_23 : decode cX1_grant 23 = .ok (.aload_n 0, 1) := by decide +kernel
theorem dX1_grant_24 : decode cX1_grant 24 = .ok (.iconst 1, 1) := by decide +kernel
theorem dX1_grant_25 : decode cX1_grant 25 = .ok (.putfield 15, 3) := by decide +kernel
theorem dX1_grant_28 : decode cX1_grant 28 = .ok (.return_, 1) := by decide +kernel
theorem dX1_init_0 : decode cX1_init 0 = .ok (.aload_n 0, 1) := by decide +kernel
theorem dX1_init_1 : decode cX1_init 1 = .ok (.invokespecial 3, 3) := by decide +kernel
theorem dX1_init_4 : decode cX1_init 4 = .ok (.aload_n 0, 1) := by decide +kernel
theorem dX1_init_5 : decode cX1_init 5 = .ok (.bipush 10, 2) := by decide +kernel
theorem dX1_init_7 : decode cX1_init 7 = .ok (.newarray .int, 2) := by decide +kernel
theorem dX1_init_9 : decode cX1_init 9 = .ok (.putfield 9, 3) := by decide +kernel
theorem dX1_init_12 : decode cX1_init 12 = .ok (.aload_n 0, 1) := by decide +kernel
theorem dX1_init_13 : decode cX1_init 13 = .ok (.iconst 0, 1) := by decide +kernel
theorem dX1_init_14 : decode cX1_init 14 = .ok (.putfield 15, 3) := by decide +kernel
theorem dX1_init_17 : decode cX1_init 17 = .ok (.return_, 1) := by decide +kernel
theorem dX1_merge_0 : decode cX1_merge 0 = .ok (.iconst 0, 1) := by decide +kernel
theorem dX1_merge_1 : decode cX1_merge 1 = .ok (.istore_n 3, 1) := by decide +kernel
theorem dX1_merge_2 : decode cX1_merge 2 = .ok (.iconst 0, 1) := by decide +kernel
theorem dX1_merge_3 : decode cX1_merge 3 = .ok (.istore 4, 2) := by decide +kernel
theorem dX1_merge_5 : decode cX1_merge 5 = .ok (.iload 4, 2) := by decide +kernel
theorem dX1_merge_7 : decode cX1_merge 7 = .ok (.aload_n 1, 1) := by decide +kernel
theorem dX1_merge_8 : decode cX1_merge 8 = .ok (.getfield 25, 3) := by decide +kernel
theorem dX1_merge_11 : decode cX1_merge 11 = .ok (.if_icmp .ge 33, 3) := by decide +kernel
theorem dX1_merge_14 : decode cX1_merge 14 = .ok (.aload_n 0, 1) := by decide +kernel
theorem dX1_merge_15 : decode cX1_merge 15 = .ok (.getfield 9, 3) := by decide +kernel
theorem dX1_merge_18 : decode cX1_merge 18 = .ok (.iload_n 2, 1) := by decide +kernel
theorem dX1_merge_19 : decode cX1_merge 19 = .ok (.iaload, 1) := by decide +kernel
theorem dX1_merge_20 : decode cX1_merge 20 = .ok (.iload 4, 2) := by decide +kernel
theorem dX1_merge_22 : decode cX1_merge 22 = .ok (.invokestatic 41, 3) := by decide +kernel
theorem dX1_merge_25 : decode cX1_merge 25 = .ok (.ifCond .eq 13, 3) := by decide +kernel
theorem dX1_merge_28 : decode cX1_merge 28 = .ok (.iload_n 3, 1) := by decide +kernel
theorem dX1_merge_29 : decode cX1_merge 29 = .ok (.aload_n 1, 1) := by decide +kernel
theorem dX1_merge_30 : decode cX1_merge 30 = .ok (.getfield 75, 3) := by decide +kernel
theorem dX1_merge_33 : decode cX1_merge 33 = .ok (.iload 4, 2) := by decide +kernel
theorem dX1_merge_35 : decode cX1_merge 35 = .ok (.iaload, 1) := by decide +kernel
theorem dX1_merge_36 : decode cX1_merge 36 = .ok (.ior, 1) := by decide +kernel
theorem dX1_merge_37 : decode cX1_merge 37 = .ok (.istore_n 3, 1) := by decide +kernel
theorem dX1_merge_38 : decode cX1_merge 38 = .ok (.iinc 4 1, 3) := by decide +kernel
theorem dX1_merge_41 : decode cX1_merge 41 = .ok (.goto (-36), 3) := by decide +kernel
theorem dX1_merge_44 : decode cX1_merge 44 = .ok (.aload_n 1, 1) := by decide +kernel
theorem dX1_merge_45 : decode cX1_merge 45 = .ok (.getfield 75, 3) := by decide +kernel
theorem dX1_merge_48 : decode cX1_merge 48 = .ok (.iload_n 2, 1) := by decide +kernel
theorem dX1_merge_49 : decode cX1_merge 49 = .ok (.iaload, 1) := by decide +kernel
theorem dX1_merge_50 : decode cX1_merge 50 = .ok (.aload_n 1, 1) := by decide +kernel
theorem dX1_merge_51 : decode cX1_merge 51 = .ok (.getfield 78, 3) := by decide +kernel
theorem dX1_merge_54 : decode cX1_merge 54 = .ok (.iand, 1) := by decide +kernel
theorem dX1_merge_55 : decode cX1_merge 55 = .ok (.istore 4, 2) := by decide +kernel
theorem dX1_merge_57 : decode cX1_merge 57 = .ok (.iconst 0, 1) := by decide +kernel
theorem dX1_merge_58 : decode cX1_merge 58 = .ok (.istore 5, 2) := by decide +kernel
theorem dX1_merge_60 : decode cX1_merge 60 = .ok (.iload 5, 2) := by decide +kernel
theorem dX1_merge_62 : decode cX1_merge 62 = .ok (.aload_n 1, 1) := by decide +kernel
theorem dX1_merge_63 : decode cX1_merge 63 = .ok (.getfield 25, 3) := by decide +kernel
theorem dX1_merge_66 : decode cX1_merge 66 = .ok (.if_icmp .ge 26, 3) := by decide +kernel
theorem dX1_merge_69 : decode cX1_merge 69 = .ok (.iload 4, 2) := by decide +kernel
theorem dX1_merge_71 : decode cX1_merge 71 = .ok (.iload 5, 2) := by decide +kernel
theorem dX1_merge_73 : decode cX1_merge 73 = .ok (.invokestatic 41, 3) := by decide +kernel
theorem dX1_merge_76 : decode cX1_merge 76 = .ok (.ifCond .eq 10, 3) := by decide +kernel
theorem dX1_merge_79 : decode cX1_merge 79 = .ok (.aload_n 0, 1) := by decide +kernel
theorem dX1_merge_80 : decode cX1_merge 80 = .ok (.iload 5, 2) := by decide +kernel
theorem dX1_merge_82 : decode cX1_merge 82 = .ok (.iload_n 3, 1) := by decide +kernel
theorem dX1_merge_83 : decode cX1_merge 83 = .ok (.invokevirtual 55, 3) := by decide +kernel
theorem dX1_merge_86 : decode cX1_merge 86 = .ok (.iinc 5 1, 3) := by decide +kernel
theorem dX1_merge_89 : decode cX1_merge 89 = .ok (.goto (-29), 3) := by decide +kernel
theorem dX1_merge_92 : decode cX1_merge 92 = .ok (.return_, 1) := by decide +kernel
theorem dX1_start_0 : decode cX1_start 0 = .ok (.aload_n 1, 1) := by decide +kernel
theorem dX1_start_1 : decode cX1_start 1 = .ok (.aload_n 0, 1) := by decide +kernel
theorem dX1_start_2 : decode cX1_start 2 = .ok (.getfield 9, 3) := by decide +kernel
theorem dX1_start_5 : decode cX1_start 5 = .ok (.iload_n 2, 1) := by decide +kernel
theorem dX1_start_6 : decode cX1_start 6 = .ok (.invokevirtual 19, 3) := by decide +kernel
theorem dX1_start_9 : decode cX1_start 9 = .ok (.return_, 1) := by decide +kernel
theorem dX1_takeFrom_0 : decode cX1_takeFrom 0 = .ok (.aload_n 1, 1) := by decide +kernel
theorem dX1_takeFrom_1 : decode cX1_takeFrom 1 = .ok (.getfield 63, 3) := by decide +kernel
theorem dX1_takeFrom_4 : decode cX1_takeFrom 4 = .ok (.iload_n 3, 1) := by decide +kernel
theorem dX1_takeFrom_5 : decode cX1_takeFrom 5 = .ok (.invokestatic 41, 3) := by decide +kernel
theorem dX1_takeFrom_8 : decode cX1_takeFrom 8 = .ok (.ifCond .eq 14, 3) := by decide +kernel
theorem dX1_takeFrom_11 : decode cX1_takeFrom 11 = .ok (.aload_n 0, 1) := by decide +kernel
theorem dX1_takeFrom_12 : decode cX1_takeFrom 12 = .ok (.iload_n 2, 1) := by decide +kernel
theorem dX1_takeFrom_13 : decode cX1_takeFrom 13 = .ok (.aload_n 0, 1) := by decide +kernel
theorem dX1_takeFrom_14 : decode cX1_takeFrom 14 = .ok (.getfield 9, 3) := by decide +kernel
theorem dX1_takeFrom_17 : decode cX1_takeFrom 17 = .ok (.iload_n 3, 1) := by decide +kernel
theorem dX1_takeFrom_18 : decode cX1_takeFrom 18 = .ok (.iaload, 1) := by decide +kernel
theorem dX1_takeFrom_19 : decode cX1_takeFrom 19 = .ok (.invokevirtual 55, 3) := by decide +kernel
theorem dX1_takeFrom_22 : decode cX1_takeFrom 22 = .ok (.aload_n 1, 1) := by decide +kernel
theorem dX1_takeFrom_23 : decode cX1_takeFrom 23 = .ok (.getfield 66, 3) := by decide +kernel
theorem dX1_takeFrom_26 : decode cX1_takeFrom 26 = .ok (.iload_n 3, 1) := by decide +kernel
theorem dX1_takeFrom_27 : decode cX1_takeFrom 27 = .ok (.iaload, 1) := by decide +kernel
theorem dX1_takeFrom_28 : decode cX1_takeFrom 28 = .ok (.aload_n 0, 1) := by decide +kernel
theorem dX1_takeFrom_29 : decode cX1_takeFrom 29 = .ok (.getfield 9, 3) := by decide +kernel
theorem dX1_takeFrom_32 : decode cX1_takeFrom 32 = .ok (.iload_n 2, 1) := by decide +kernel
theorem dX1_takeFrom_33 : decode cX1_takeFrom 33 = .ok (.iaload, 1) := by decide +kernel
theorem dX1_takeFrom_34 : decode cX1_takeFrom 34 = .ok (.iand, 1) := by decide +kernel
theorem dX1_takeFrom_35 : decode cX1_takeFrom 35 = .ok (.ifCond .eq 17, 3) := by decide +kernel
theorem dX1_takeFrom_38 : decode cX1_takeFrom 38 = .ok (.aload_n 0, 1) := by decide +kernel
theorem dX1_takeFrom_39 : decode cX1_takeFrom 39 = .ok (.iload_n 2, 1) := by decide +kernel
theorem dX1_takeFrom_40 : decode cX1_takeFrom 40 = .ok (.aload_n 1, 1) := by decide +kernel
theorem dX1_takeFrom_41 : decode cX1_takeFrom 41 = .ok (.getfield 69, 3) := by decide +kernel
theorem dX1_takeFrom_44 : decode cX1_takeFrom 44 = .ok (.iload_n 3, 1) := by decide +kernel
theorem dX1_takeFrom_45 : decode cX1_takeFrom 45 = .ok (.iaload, 1) := by decide +kernel
theorem dX1_takeFrom_46 : decode cX1_takeFrom 46 = .ok (.invokestatic 51, 3) := by decide +kernel
theorem dX1_takeFrom_49 : decode cX1_takeFrom 49 = .ok (.invokevirtual 55, 3) := by decide +kernel
theorem dX1_takeFrom_52 : decode cX1_takeFrom 52 = .ok (.aload_n 1, 1) := by decide +kernel
theorem dX1_takeFrom_53 : decode cX1_takeFrom 53 = .ok (.getfield 72, 3) := by decide +kernel
theorem dX1_takeFrom_56 : decode cX1_takeFrom 56 = .ok (.iload_n 3, 1) := by decide +kernel
theorem dX1_takeFrom_57 : decode cX1_takeFrom 57 = .ok (.invokestatic 41, 3) := by decide +kernel
theorem dX1_takeFrom_60 : decode cX1_takeFrom 60 = .ok (.ifCond .eq 33, 3) := by decide +kernel
theorem dX1_takeFrom_63 : decode cX1_takeFrom 63 = .ok (.aload_n 0, 1) := by decide +kernel
theorem dX1_takeFrom_64 : decode cX1_takeFrom 64 = .ok (.iload_n 2, 1) := by decide +kernel
theorem dX1_takeFrom_65 : decode cX1_takeFrom 65 = .ok (.aload_n 1, 1) := by decide +kernel
theorem dX1_takeFrom_66 : decode cX1_takeFrom 66 = .ok (.getfield 69, 3) := by decide +kernel
theorem dX1_takeFrom_69 : decode cX1_takeFrom 69 = .ok (.iload_n 3, 1) := by decide +kernel
theorem dX1_takeFrom_70 : decode cX1_takeFrom 70 = .ok (.iaload, 1) := by decide +kernel
theorem dX1_takeFrom_71 : decode cX1_takeFrom 71 = .ok (.invokestatic 51, 3) := by decide +kernel
theorem dX1_takeFrom_74 : decode cX1_takeFrom 74 = .ok (.invokevirtual 55, 3) := by decide +kernel
theorem dX1_takeFrom_77 : decode cX1_takeFrom 77 = .ok (.aload_n 0, 1) := by decide +kernel
theorem dX1_takeFrom_78 : decode cX1_takeFrom 78 = .ok (.aload_n 1, 1) := by decide +kernel
theorem dX1_takeFrom_79 : decode cX1_takeFrom 79 = .ok (.getfield 69, 3) := by decide +kernel
theorem dX1_takeFrom_82 : decode cX1_takeFrom 82 = .ok (.iload_n 3, 1) := by decide +kernel
theorem dX1_takeFrom_83 : decode cX1_takeFrom 83 = .ok (.iaload, 1) := by decide +kernel
theorem dX1_takeFrom_84 : decode cX1_takeFrom 84 = .ok (.aload_n 0, 1) := by decide +kernel
theorem dX1_takeFrom_85 : decode cX1_takeFrom 85 = .ok (.getfield 9, 3) := by decide +kernel
theorem dX1_takeFrom_88 : decode cX1_takeFrom 88 = .ok (.iload_n 3, 1) := by decide +kernel
theorem dX1_takeFrom_89 : decode cX1_takeFrom 89 = .ok (.iaload, 1) := by decide +kernel
theorem dX1_takeFrom_90 : decode cX1_takeFrom 90 = .ok (.invokevirtual 55, 3) := by decide +kernel
theorem dX1_takeFrom_93 : decode cX1_takeFrom 93 = .ok (.return_, 1) := by decide +kernel
theorem dX2_init_0 : decode cX2_init 0 = .ok (.aload_n 0, 1) := by decide +kernel
theorem dX2_init_1 : decode cX2_init 1 = .ok (.invokespecial 3, 3) := by decide +kernel
theorem dX2_init_4 : decode cX2_init 4 = .ok (.aload_n 0, 1) := by decide +kernel
theorem dX2_init_5 : decode cX2_init 5 = .ok (.iconst 5, 1) := by decide +kernel
theorem dX2_init_6 : decode cX2_init 6 = .ok (.anewarray 9, 3) := by decide +kernel
theorem dX2_init_9 : decode cX2_init 9 = .ok (.putfield 11, 3) := by decide +kernel
theorem dX2_init_12 : decode cX2_init 12 = .ok (.aload_n 0, 1) := by decide +kernel
theorem dX2_init_13 : decode cX2_init 13 = .ok (.iconst 0, 1) := by decide +kernel
theorem dX2_init_14 : decode cX2_init 14 = .ok (.putfield 17, 3) := by decide +kernel
theorem dX2_init_17 : decode cX2_init 17 = .ok (.aload_n 0, 1) := by decide +kernel
theorem dX2_init_18 : decode cX2_init 18 = .ok (.iconst 0, 1) := by decide +kernel
theorem dX2_init_19 : decode cX2_init 19 = .ok (.putfield 21, 3) := by decide +kernel
theorem dX2_init_22 : decode cX2_init 22 = .ok (.iconst 0, 1) := by decide +kernel
theorem dX2_init_23 : decode cX2_init 23 = .ok (.istore_n 1, 1) := by decide +kernel
theorem dX2_init_24 : decode cX2_init 24 = .ok (.iload_n 1, 1) := by decide +kernel
theorem dX2_init_25 : decode cX2_init 25 = .ok (.iconst 5, 1) := by decide +kernel
theorem dX2_init_26 : decode cX2_init 26 = .ok (.if_icmp .ge 22, 3) := by decide +kernel
theorem dX2_init_29 : decode cX2_init 29 = .ok (.aload_n 0, 1) := by decide +kernel
theorem dX2_init_30 : decode cX2_init 30 = .ok (.getfield 11, 3) := by decide +kernel
theorem dX2_init_33 : decode cX2_init 33 = .ok (.iload_n 1, 1) := by decide +kernel
theorem dX2_init_34 : decode cX2_init 34 = .ok (.new 9, 3) := by decide +kernel
theorem dX2_init_37 : decode cX2_init 37 = .ok (.dup, 1) := by decide +kernel
theorem dX2_init_38 : decode cX2_init 38 = .ok (.invokespecial 24, 3) := by decide +kernel
theorem dX2_init_41 : decode cX2_init 41 = .ok (.aastore, 1) := by decide +kernel
theorem dX2_init_42 : decode cX2_init 42 = .ok (.iinc 1 1, 3) := by decide +kernel
theorem dX2_init_45 : decode cX2_init 45 = .ok (.goto (-21), 3) := by decide +kernel
theorem dX2_init_48 : decode cX2_init 48 = .ok (.return_, 1) := by decide +kernel
theorem dX2_restoreInto_0 : decode cX2_restoreInto 0 = .ok (.aload_n 0, 1) := by decide +kernel
theorem dX2_restoreInto_1 : decode cX2_restoreInto 1 = .ok (.getfield 21, 3) := by decide +kernel
theorem dX2_restoreInto_4 : decode cX2_restoreInto 4 = .ok (.ifCond .gt 4, 3) := by decide +kernel
theorem dX2_restoreInto_7 : decode cX2_restoreInto 7 = .ok (.return_, 1) := by decide +kernel
theorem dX2_restoreInto_8 : decode cX2_restoreInto 8 = .ok (.aload_n 0, 1) := by decide +kernel
theorem dX2_restoreInto_9 : decode cX2_restoreInto 9 = .ok (.aload_n 0, 1) := by decide +kernel
theorem dX2_restoreInto_10 : decode cX2_restoreInto 10 = .ok (.getfield 17, 3) := by decide +kernel
theorem dX2_restoreInto_13 : decode cX2_restoreInto 13 = .ok (.iconst 5, 1) := by decide +kernel
theorem dX2_restoreInto_14 : decode cX2_restoreInto 14 = .ok (.iadd, 1) := by decide +kernel
theorem dX2_restoreInto_15 : decode cX2_restoreInto 15 = .ok (.iconst 1, 1) := by decide +kernel
theorem dX2_restoreInto_16 : decode cX2_restoreInto 16 = .ok (.isub, 1) := by decide +kernel
theorem dX2_restoreInto_17 : decode cX2_restoreInto 17 = .ok (.iconst 5, 1) := by decide +kernel
theorem dX2_restoreInto_18 : decode cX2_restoreInto 18 = .ok (.irem, 1) := by decide +kernel
theorem dX2_restoreInto_19 : decode cX2_restoreInto 19 = .ok (.putfield 17, 3) := by decide +kernel
theorem dX2_restoreInto_22 : decode cX2_restoreInto 22 = .ok (.aload_n 0, 1) := by decide +kernel
theorem dX2_restoreInto_23 : decode cX2_restoreInto 23 = .ok (.dup, 1) := by decide +kernel
theorem dX2_restoreInto_24 : decode cX2_restoreInto 24 = .ok (.getfield 21, 3) := by decide +kernel
theorem dX2_restoreInto_27 : decode cX2_restoreInto 27 = .ok (.iconst 1, 1) := by decide +kernel
theorem dX2_restoreInto_28 : decode cX2_restoreInto 28 = .ok (.isub, 1) := by decide +kernel
theorem dX2_restoreInto_29 : decode cX2_restoreInto 29 = .ok (.putfield 21, 3) := by decide +kernel
theorem dX2_restoreInto_32 : decode cX2_restoreInto 32 = .ok (.aload_n 1, 1) := by decide +kernel
theorem dX2_restoreInto_33 : decode cX2_restoreInto 33 = .ok (.aload_n 0, 1) := by decide +kernel
theorem dX2_restoreInto_34 : decode cX2_restoreInto 34 = .ok (.getfield 11, 3) := by decide +kernel
theorem dX2_restoreInto_37 : decode cX2_restoreInto 37 = .ok (.aload_n 0, 1) := by decide +kernel
theorem dX2_restoreInto_38 : decode cX2_restoreInto 38 = .ok (.getfield 17, 3) := by decide +kernel
theorem dX2_restoreInto_41 : decode cX2_restoreInto 41 = .ok (.aaload, 1) := by decide +kernel
theorem dX2_restoreInto_42 : decode cX2_restoreInto 42 = .ok (.invokevirtual 25, 3) := by decide +kernel
theorem dX2_restoreInto_45 : decode cX2_restoreInto 45 = .ok (.return_, 1) := by decide +kernel
theorem dX2_save_0 : decode cX2_save 0 = .ok (.aload_n 0, 1) := by decide +kernel
theorem dX2_save_1 : decode cX2_save 1 = .ok (.getfield 11, 3) := by decide +kernel
theorem dX2_save_4 : decode cX2_save 4 = .ok (.aload_n 0, 1) := by decide +kernel
theorem dX2_save_5 : decode cX2_save 5 = .ok (.getfield 17, 3) := by decide +kernel
theorem dX2_save_8 : decode cX2_save 8 = .ok (.aaload, 1) := by decide +kernel
theorem dX2_save_9 : decode cX2_save 9 = .ok (.aload_n 1, 1) := by decide +kernel
theorem dX2_save_10 : decode cX2_save 10 = .ok (.invokevirtual 25, 3) := by decide +kernel
theorem dX2_save_13 : decode cX2_save 13 = .ok (.aload_n 0, 1) := by decide +kernel
theorem dX2_save_14 : decode cX2_save 14 = .ok (.aload_n 0, 1) := by decide +kernel
theorem dX2_save_15 : decode cX2_save 15 = .ok (.getfield 17, 3) := by decide +kernel
theorem dX2_save_18 : decode cX2_save 18 = .ok (.iconst 1, 1) := by decide +kernel
theorem dX2_save_19 : decode cX2_save 19 = .ok (.iadd, 1) := by decide +kernel
theorem dX2_save_20 : decode cX2_save 20 = .ok (.iconst 5, 1) := by decide +kernel
theorem dX2_save_21 : decode cX2_save 21 = .ok (.irem, 1) := by decide +kernel
theorem dX2_save_22 : decode cX2_save 22 = .ok (.putfield 17, 3) := by decide +kernel
theorem dX2_save_25 : decode cX2_save 25 = .ok (.aload_n 0, 1) := by decide +kernel
theorem dX2_save_26 : decode cX2_save 26 = .ok (.aload_n 0, 1) := by decide +kernel
theorem dX2_save_27 : decode cX2_save 27 = .ok (.getfield 21, 3) := by decide +kernel
theorem dX2_save_30 : decode cX2_save 30 = .ok (.iconst 1, 1) := by decide +kernel
theorem dX2_save_31 : decode cX2_save 31 = .ok (.iadd, 1) := by decide +kernel
theorem dX2_save_32 : decode cX2_save 32 = .ok (.iconst 5, 1) := by decide +kernel
theorem dX2_save_33 : decode cX2_save 33 = .ok (.invokestatic 29, 3) := by decide +kernel
theorem dX2_save_36 : decode cX2_save 36 = .ok (.putfield 21, 3) := by decide +kernel
theorem dX2_save_39 : decode cX2_save 39 = .ok (.return_, 1) := by decide +kernel
theorem dX3_agentsWith_0 : decode cX3_agentsWith 0 = .ok (.iconst 0, 1) := by decide +kernel
theorem dX3_agentsWith_1 : decode cX3_agentsWith 1 = .ok (.istore_n 2, 1) := by decide +kernel
theorem dX3_agentsWith_2 : decode cX3_agentsWith 2 = .ok (.iconst 0, 1) := by decide +kernel
theorem dX3_agentsWith_3 : decode cX3_agentsWith 3 = .ok (.istore_n 3, 1) := by decide +kernel
theorem dX3_agentsWith_4 : decode cX3_agentsWith 4 = .ok (.iload_n 3, 1) := by decide +kernel
theorem dX3_agentsWith_5 : decode cX3_agentsWith 5 = .ok (.aload_n 0, 1) := by decide +kernel
theorem dX3_agentsWith_6 : decode cX3_agentsWith 6 = .ok (.getfield 49, 3) := by decide +kernel
theorem dX3_agentsWith_9 : decode cX3_agentsWith 9 = .ok (.if_icmp .ge 25, 3) := by decide +kernel
theorem dX3_agentsWith_12 : decode cX3_agentsWith 12 = .ok (.aload_n 0, 1) := by decide +kernel
theorem dX3_agentsWith_13 : decode cX3_agentsWith 13 = .ok (.iload_n 3, 1) := by decide +kernel
theorem dX3_agentsWith_14 : decode cX3_agentsWith 14 = .ok (.iload_n 1, 1) := by decide +kernel
theorem dX3_agentsWith_15 : decode cX3_agentsWith 15 = .ok (.invokevirtual 85, 3) := by decide +kernel
theorem dX3_agentsWith_18 : decode cX3_agentsWith 18 = .ok (.ifCond .eq 10, 3) := by decide +kernel
theorem dX3_agentsWith_21 : decode cX3_agentsWith 21 = .ok (.iload_n 2, 1) := by decide +kernel
theorem dX3_agentsWith_22 : decode cX3_agentsWith 22 = .ok (.iload_n 3, 1) := by decide +kernel
theorem dX3_agentsWith_23 : decode cX3_agentsWith 23 = .ok (.invokestatic 71, 3) := by decide +kernel
theorem dX3_agentsWith_26 : decode cX3_agentsWith 26 = .ok (.ior, 1) := by decide +kernel
theorem dX3_agentsWith_27 : decode cX3_agentsWith 27 = .ok (.istore_n 2, 1) := by decide +kernel
theorem dX3_agentsWith_28 : decode cX3_agentsWith 28 = .ok (.iinc 3 1, 3) := by decide +kernel
theorem dX3_agentsWith_31 : decode cX3_agentsWith 31 = .ok (.goto (-27), 3) := by decide +kernel
theorem dX3_agentsWith_34 : decode cX3_agentsWith 34 = .ok (.iload_n 2, 1) := by decide +kernel
theorem dX3_agentsWith_35 : decode cX3_agentsWith 35 = .ok (.ireturn, 1) := by decide +kernel
theorem dX3_init_0 : decode cX3_init 0 = .ok (.aload_n 0, 1) := by decide +kernel
theorem dX3_init_1 : decode cX3_init 1 = .ok (.invokespecial 3, 3) := by decide +kernel
theorem dX3_init_4 : decode cX3_init 4 = .ok (.aload_n 0, 1) := by decide +kernel
theorem dX3_init_5 : decode cX3_init 5 = .ok (.iconst 0, 1) := by decide +kernel
theorem dX3_init_6 : decode cX3_init 6 = .ok (.putfield 9, 3) := by decide +kernel
theorem dX3_init_9 : decode cX3_init 9 = .ok (.aload_n 0, 1) := by decide +kernel
theorem dX3_init_10 : decode cX3_init 10 = .ok (.iconst 0, 1) := by decide +kernel
theorem dX3_init_11 : decode cX3_init 11 = .ok (.putfield 15, 3) := by decide +kernel
theorem dX3_init_14 : decode cX3_init 14 = .ok (.aload_n 0, 1) := by decide +kernel
theorem dX3_init_15 : decode cX3_init 15 = .ok (.iconst 0, 1) := by decide +kernel
theorem dX3_init_16 : decode cX3_init 16 = .ok (.putfield 18, 3) := by decide +kernel
theorem dX3_init_19 : decode cX3_init 19 = .ok (.aload_n 0, 1) := by decide +kernel
theorem dX3_init_20 : decode cX3_init 20 = .ok (.iconst 0, 1) := by decide +kernel
theorem dX3_init_21 : decode cX3_init 21 = .ok (.putfield 21, 3) := by decide +kernel
theorem dX3_init_24 : decode cX3_init 24 = .ok (.aload_n 0, 1) := by decide +kernel
theorem dX3_init_25 : decode cX3_init 25 = .ok (.iconst 0, 1) := by decide +kernel
theorem dX3_init_26 : decode cX3_init 26 = .ok (.putfield 24, 3) := by decide +kernel
theorem dX3_init_29 : decode cX3_init 29 = .ok (.aload_n 0, 1) := by decide +kernel
theorem dX3_init_30 : decode cX3_init 30 = .ok (.iconst 0, 1) := by decide +kernel
theorem dX3_init_31 : decode cX3_init 31 = .ok (.putfield 27, 3) := by decide +kernel
theorem dX3_init_34 : decode cX3_init 34 = .ok (.aload_n 0, 1) := by decide +kernel
theorem dX3_init_35 : decode cX3_init 35 = .ok (.iconst 0, 1) := by decide +kernel
theorem dX3_init_36 : decode cX3_init 36 = .ok (.putfield 30, 3) := by decide +kernel
theorem dX3_init_39 : decode cX3_init 39 = .ok (.aload_n 0, 1) := by decide +kernel
theorem dX3_init_40 : decode cX3_init 40 = .ok (.bipush 10, 2) := by decide +kernel
theorem dX3_init_42 : decode cX3_init 42 = .ok (.newarray .int, 2) := by decide +kernel
theorem dX3_init_44 : decode cX3_init 44 = .ok (.putfield 33, 3) := by decide +kernel
theorem dX3_init_47 : decode cX3_init 47 = .ok (.aload_n 0, 1) := by decide +kernel
theorem dX3_init_48 : decode cX3_init 48 = .ok (.bipush 10, 2) := by decide +kernel
theorem dX3_init_50 : decode cX3_init 50 = .ok (.newarray .int, 2) := by decide +kernel
theorem dX3_init_52 : decode cX3_init 52 = .ok (.putfield 37, 3) := by decide +kernel
theorem dX3_init_55 : decode cX3_init 55 = .ok (.aload_n 0, 1) := by decide +kernel
theorem dX3_init_56 : decode cX3_init 56 = .ok (.bipush 10, 2) := by decide +kernel
theorem dX3_init_58 : decode cX3_init 58 = .ok (.newarray .int, 2) := by decide +kernel
theorem dX3_init_60 : decode cX3_init 60 = .ok (.putfield 40, 3) := by decide +kernel
theorem dX3_init_63 : decode cX3_init 63 = .ok (.aload_n 0, 1) := by decide +kernel
theorem dX3_init_64 : decode cX3_init 64 = .ok (.bipush 10, 2) := by decide +kernel
theorem dX3_init_66 : decode cX3_init 66 = .ok (.newarray .int, 2) := by decide +kernel
theorem dX3_init_68 : decode cX3_init 68 = .ok (.putfield 43, 3) := by decide +kernel
theorem dX3_init_71 : decode cX3_init 71 = .ok (.aload_n 0, 1) := by decide +kernel
theorem dX3_init_72 : decode cX3_init 72 = .ok (.bipush 10, 2) := by decide +kernel
theorem dX3_init_74 : decode cX3_init 74 = .ok (.newarray .int, 2) := by decide +kernel
theorem dX3_init_76 : decode cX3_init 76 = .ok (.putfield 46, 3) := by decide +kernel
theorem dX3_init_79 : decode cX3_init 79 = .ok (.return_, 1) := by decide +kernel
theorem dX3_readFrom_0 : decode cX3_readFrom 0 = .ok (.aload_n 0, 1) := by decide +kernel
theorem dX3_readFrom_1 : decode cX3_readFrom 1 = .ok (.aload_n 1, 1) := by decide +kernel
theorem dX3_readFrom_2 : decode cX3_readFrom 2 = .ok (.getfield 49, 3) := by decide +kernel
theorem dX3_readFrom_5 : decode cX3_readFrom 5 = .ok (.putfield 9, 3) := by decide +kernel
theorem dX3_readFrom_8 : decode cX3_readFrom 8 = .ok (.aload_n 0, 1) := by decide +kernel
theorem dX3_readFrom_9 : decode cX3_readFrom 9 = .ok (.aload_n 1, 1) := by decide +kernel
theorem dX3_readFrom_10 : decode cX3_readFrom 10 = .ok (.iconst 1, 1) := by decide +kernel
theorem dX3_readFrom_11 : decode cX3_readFrom 11 = .ok (.invokestatic 52, 3) := by decide +kernel
theorem dX3_readFrom_14 : decode cX3_readFrom 14 = .ok (.putfield 15, 3) := by decide +kernel
theorem dX3_readFrom_17 : decode cX3_readFrom 17 = .ok (.aload_n 0, 1) := by decide +kernel
theorem dX3_readFrom_18 : decode cX3_readFrom 18 = .ok (.aload_n 1, 1) := by decide +kernel
theorem dX3_readFrom_19 : decode cX3_readFrom 19 = .ok (.iconst 2, 1) := by decide +kernel
theorem dX3_readFrom_20 : decode cX3_readFrom 20 = .ok (.invokestatic 52, 3) := by decide +kernel
theorem dX3_readFrom_23 : decode cX3_readFrom 23 = .ok (.putfield 18, 3) := by decide +kernel
theorem dX3_readFrom_26 : decode cX3_readFrom 26 = .ok (.aload_n 0, 1) := by decide +kernel
theorem dX3_readFrom_27 : decode cX3_readFrom 27 = .ok (.aload_n 1, 1) := by decide +kernel
theorem dX3_readFrom_28 : decode cX3_readFrom 28 = .ok (.iconst 4, 1) := by decide +kernel
theorem dX3_readFrom_29 : decode cX3_readFrom 29 = .ok (.invokestatic 52, 3) := by decide +kernel
theorem dX3_readFrom_32 : decode cX3_readFrom 32 = .ok (.putfield 21, 3) := by decide +kernel
theorem dX3_readFrom_35 : decode cX3_readFrom 35 = .ok (.aload_n 0, 1) := by decide +kernel
theorem dX3_readFrom_36 : decode cX3_readFrom 36 = .ok (.aload_n 1, 1) := by decide +kernel
theorem dX3_readFrom_37 : decode cX3_readFrom 37 = .ok (.bipush 8, 2) := by decide +kernel
theorem dX3_readFrom_39 : decode cX3_readFrom 39 = .ok (.invokestatic 52, 3) := by decide +kernel
theorem dX3_readFrom_42 : decode cX3_readFrom 42 = .ok (.putfield 24, 3) := by decide +kernel
theorem dX3_readFrom_45 : decode cX3_readFrom 45 = .ok (.aload_n 0, 1) := by decide +kernel
theorem dX3_readFrom_46 : decode cX3_readFrom 46 = .ok (.iconst 0, 1) := by decide +kernel
theorem dX3_readFrom_47 : decode cX3_readFrom 47 = .ok (.putfield 27, 3) := by decide +kernel
theorem dX3_readFrom_50 : decode cX3_readFrom 50 = .ok (.aload_n 0, 1) := by decide +kernel
theorem dX3_readFrom_51 : decode cX3_readFrom 51 = .ok (.iconst 0, 1) := by decide +kernel
theorem dX3_readFrom_52 : decode cX3_readFrom 52 = .ok (.putfield 30, 3) := by decide +kernel
theorem dX3_readFrom_55 : decode cX3_readFrom 55 = .ok (.aload_n 0, 1) := by decide +kernel
theorem dX3_readFrom_56 : decode cX3_readFrom 56 = .ok (.getfield 40, 3) := by decide +kernel
theorem dX3_readFrom_59 : decode cX3_readFrom 59 = .ok (.iconst 0, 1) := by decide +kernel
theorem dX3_readFrom_60 : decode cX3_readFrom 60 = .ok (.invokestatic 56, 3) := by decide +kernel
theorem dX3_readFrom_63 : decode cX3_readFrom 63 = .ok (.aload_n 0, 1) := by decide +kernel
theorem dX3_readFrom_64 : decode cX3_readFrom 64 = .ok (.getfield 43, 3) := by decide +kernel
theorem dX3_readFrom_67 : decode cX3_readFrom 67 = .ok (.iconst 0, 1) := by decide +kernel
theorem dX3_readFrom_68 : decode cX3_readFrom 68 = .ok (.invokestatic 56, 3) := by decide +kernel
theorem dX3_readFrom_71 : decode cX3_readFrom 71 = .ok (.iconst 0, 1) := by decide +kernel
theorem dX3_readFrom_72 : decode cX3_readFrom 72 = .ok (.istore_n 2, 1) := by decide +kernel
theorem dX3_readFrom_73 : decode cX3_readFrom 73 = .ok (.iload_n 2, 1) := by decide +kernel
theorem dX3_readFrom_74 : decode cX3_readFrom 74 = .ok (.aload_n 0, 1) := by decide +kernel
theorem dX3_readFrom_75 : decode cX3_readFrom 75 = .ok (.getfield 9, 3) := by decide +kernel
theorem dX3_readFrom_78 : decode cX3_readFrom 78 = .ok (.if_icmp .ge 15, 3) := by decide +kernel
theorem dX3_readFrom_81 : decode cX3_readFrom 81 = .ok (.aload_n 0, 1) := by decide +kernel
theorem dX3_readFrom_82 : decode cX3_readFrom 82 = .ok (.aload_n 1, 1) := by decide +kernel
theorem dX3_readFrom_83 : decode cX3_readFrom 83 = .ok (.iload_n 2, 1) := by decide +kernel
theorem dX3_readFrom_84 : decode cX3_readFrom 84 = .ok (.invokevirtual 62, 3) := by decide +kernel
theorem dX3_readFrom_87 : decode cX3_readFrom 87 = .ok (.iinc 2 1, 3) := by decide +kernel
theorem dX3_readFrom_90 : decode cX3_readFrom 90 = .ok (.goto (-17), 3) := by decide +kernel
theorem dX3_readFrom_93 : decode cX3_readFrom 93 = .ok (.return_, 1) := by decide +kernel
theorem dX3_readObject_0 : decode cX3_readObject 0 = .ok (.aload_n 1, 1) := by decide +kernel
theorem dX3_readObject_1 : decode cX3_readObject 1 = .ok (.getfield 66, 3) := by decide +kernel
theorem dX3_readObject_4 : decode cX3_readObject 4 = .ok (.iload_n 2, 1) := by decide +kernel
theorem dX3_readObject_5 : decode cX3_readObject 5 = .ok (.iaload, 1) := by decide +kernel
theorem dX3_readObject_6 : decode cX3_readObject 6 = .ok (.istore_n 3, 1) := by decide +kernel
theorem dX3_readObject_7 : decode cX3_readObject 7 = .ok (.aload_n 0, 1) := by decide +kernel
theorem dX3_readObject_8 : decode cX3_readObject 8 = .ok (.getfield 33, 3) := by decide +kernel
theorem dX3_readObject_11 : decode cX3_readObject 11 = .ok (.iload_n 2, 1) := by decide +kernel
theorem dX3_readObject_12 : decode cX3_readObject 12 = .ok (.iload_n 3, 1) := by decide +kernel
theorem dX3_readObject_13 : decode cX3_readObject 13 = .ok (.iastore, 1) := by decide +kernel
theorem dX3_readObject_14 : decode cX3_readObject 14 = .ok (.aload_n 1, 1) := by decide +kernel
theorem dX3_readObject_15 : decode cX3_readObject 15 = .ok (.iload_n 2, 1) := by decide +kernel
theorem dX3_readObject_16 : decode cX3_readObject 16 = .ok (.iconst 1, 1) := by decide +kernel
theorem dX3_readObject_17 : decode cX3_readObject 17 = .ok (.invokevirtual 67, 3) := by decide +kernel
theorem dX3_readObject_20 : decode cX3_readObject 20 = .ok (.ifCond .eq 16, 3) := by decide +kernel
theorem dX3_readObject_23 : decode cX3_readObject 23 = .ok (.aload_n 0, 1) := by decide +kernel
theorem dX3_readObject_24 : decode cX3_readObject 24 = .ok (.getfield 40, 3) := by decide +kernel
theorem dX3_readObject_27 : decode cX3_readObject 27 = .ok (.iload_n 3, 1) := by decide +kernel
theorem dX3_readObject_28 : decode cX3_readObject 28 = .ok (.dup2, 1) := by decide +kernel
theorem dX3_readObject_29 : decode cX3_readObject 29 = .ok (.iaload, 1) := by decide +kernel
theorem dX3_readObject_30 : decode cX3_readObject 30 = .ok (.iload_n 2, 1) := by decide +kernel
theorem dX3_readObject_31 : decode cX3_readObject 31 = .ok (.invokestatic 71, 3) := by decide +kernel
theorem dX3_readObject_34 : decode cX3_readObject 34 = .ok (.ior, 1) := by decide +kernel
theorem dX3_readObject_35 : decode cX3_readObject 35 = .ok (.iastore, 1) := by decide +kernel
theorem dX3_readObject_36 : decode cX3_readObject 36 = .ok (.aload_n 1, 1) := by decide +kernel
theorem dX3_readObject_37 : decode cX3_readObject 37 = .ok (.iload_n 2, 1) := by decide +kernel
theorem dX3_readObject_38 : decode cX3_readObject 38 = .ok (.iconst 3, 1) := by decide +kernel
theorem dX3_readObject_39 : decode cX3_readObject 39 = .ok (.invokevirtual 67, 3) := by decide +kernel
theorem dX3_readObject_42 : decode cX3_readObject 42 = .ok (.ifCond .eq 29, 3) := by decide +kernel
theorem dX3_readObject_45 : decode cX3_readObject 45 = .ok (.aload_n 0, 1) := by decide +kernel
theorem dX3_readObject_46 : decode cX3_readObject 46 = .ok (.getfield 43, 3) := by decide +kernel
theorem dX3_readObject_49 : decode cX3_readObject 49 = .ok (.iload_n 3, 1) := by decide +kernel
theorem dX3_readObject_50 : decode cX3_readObject 50 = .ok (.dup2, 1) := by decide +kernel
theorem dX3_readObject_51 : decode cX3_readObject 51 = .ok (.iaload, 1) := by decide +kernel
theorem dX3_readObject_52 : decode cX3_readObject 52 = .ok (.iload_n 2, 1) := by decide +kernel
theorem dX3_readObject_53 : decode cX3_readObject 53 = .ok (.invokestatic 71, 3) := by decide +kernel
theorem dX3_readObject_56 : decode cX3_readObject 56 = .ok (.ior, 1) := by decide +kernel
theorem dX3_readObject_57 : decode cX3_readObject 57 = .ok (.iastore, 1) := by decide +kernel
theorem dX3_readObject_58 : decode cX3_readObject 58 = .ok (.aload_n 0, 1) := by decide +kernel
theorem dX3_readObject_59 : decode cX3_readObject 59 = .ok (.dup, 1) := by decide +kernel
theorem dX3_readObject_60 : decode cX3_readObject 60 = .ok (.getfield 27, 3) := by decide +kernel
theorem dX3_readObject_63 : decode cX3_readObject 63 = .ok (.iload_n 2, 1) := by decide +kernel
theorem dX3_readObject_64 : decode cX3_readObject 64 = .ok (.invokestatic 71, 3) := by decide +kernel
theorem dX3_readObject_67 : decode cX3_readObject 67 = .ok (.ior, 1) := by decide +kernel
theorem dX3_readObject_68 : decode cX3_readObject 68 = .ok (.putfield 27, 3) := by decide +kernel
theorem dX3_readObject_71 : decode cX3_readObject 71 = .ok (.aload_n 1, 1) := by decide +kernel
theorem dX3_readObject_72 : decode cX3_readObject 72 = .ok (.iload_n 2, 1) := by decide +kernel
theorem dX3_readObject_73 : decode cX3_readObject 73 = .ok (.invokevirtual 75, 3) := by decide +kernel
theorem dX3_readObject_76 : decode cX3_readObject 76 = .ok (.ifCond .eq 16, 3) := by decide +kernel
theorem dX3_readObject_79 : decode cX3_readObject 79 = .ok (.aload_n 0, 1) := by decide +kernel
theorem dX3_readObject_80 : decode cX3_readObject 80 = .ok (.dup, 1) := by decide +kernel
theorem dX3_readObject_81 : decode cX3_readObject 81 = .ok (.getfield 30, 3) := by decide +kernel
theorem dX3_readObject_84 : decode cX3_readObject 84 = .ok (.iload_n 2, 1) := by decide +kernel
theorem dX3_readObject_85 : decode cX3_readObject 85 = .ok (.invokestatic 71, 3) := by decide +kernel
theorem dX3_readObject_88 : decode cX3_readObject 88 = .ok (.ior, 1) := by decide +kernel
theorem dX3_readObject_89 : decode cX3_readObject 89 = .ok (.putfield 30, 3) := by decide +kernel
theorem dX3_readObject_92 : decode cX3_readObject 92 = .ok (.aload_n 0, 1) := by decide +kernel
theorem dX3_readObject_93 : decode cX3_readObject 93 = .ok (.getfield 37, 3) := by decide +kernel
theorem dX3_readObject_96 : decode cX3_readObject 96 = .ok (.iload_n 2, 1) := by decide +kernel
theorem dX3_readObject_97 : decode cX3_readObject 97 = .ok (.iconst 0, 1) := by decide +kernel
theorem dX3_readObject_98 : decode cX3_readObject 98 = .ok (.iastore, 1) := by decide +kernel
theorem dX3_readObject_99 : decode cX3_readObject 99 = .ok (.aload_n 0, 1) := by decide +kernel
theorem dX3_readObject_100 : decode cX3_readObject 100 = .ok (.getfield 46, 3) := by decide +kernel
theorem dX3_readObject_103 : decode cX3_readObject 103 = .ok (.iload_n 2, 1) := by decide +kernel
theorem dX3_readObject_104 : decode cX3_readObject 104 = .ok (.iconst 0, 1) := by decide +kernel
theorem dX3_readObject_105 : decode cX3_readObject 105 = .ok (.iastore, 1) := by decide +kernel
theorem dX3_readObject_106 : decode cX3_readObject 106 = .ok (.iconst 0, 1) := by decide +kernel
theorem dX3_readObject_107 : decode cX3_readObject 107 = .ok (.istore 4, 2) := by decide +kernel
theorem dX3_readObject_109 : decode cX3_readObject 109 = .ok (.iload 4, 2) := by decide +kernel
theorem dX3_readObject_111 : decode cX3_readObject 111 = .ok (.aload_n 0, 1) := by decide +kernel
theorem dX3_readObject_112 : decode cX3_readObject 112 = .ok (.getfield 9, 3) := by decide +kernel
theorem dX3_readObject_115 : decode cX3_readObject 115 = .ok (.if_icmp .ge 63, 3) := by decide +kernel
theorem dX3_readObject_118 : decode cX3_readObject 118 = .ok (.aload_n 1, 1) := by decide +kernel
theorem dX3_readObject_119 : decode cX3_readObject 119 = .ok (.iload 4, 2) := by decide +kernel
theorem dX3_readObject_121 : decode cX3_readObject 121 = .ok (.iload_n 2, 1) := by decide +kernel
theorem dX3_readObject_122 : decode cX3_readObject 122 = .ok (.invokevirtual 79, 3) := by decide +kernel
theorem dX3_readObject_125 : decode cX3_readObject 125 = .ok (.ifCond .eq 17, 3) := by decide +kernel
theorem dX3_readObject_128 : decode cX3_readObject 128 = .ok (.aload_n 0, 1) := by decide +kernel
theorem dX3_readObject_129 : decode cX3_readObject 129 = .ok (.getfield 37, 3) := by decide +kernel
theorem dX3_readObject_132 : decode cX3_readObject 132 = .ok (.iload_n 2, 1) := by decide +kernel
theorem dX3_readObject_133 : decode cX3_readObject 133 = .ok (.dup2, 1) := by decide +kernel
theorem dX3_readObject_134 : decode cX3_readObject 134 = .ok (.iaload, 1) := by decide +kernel
theorem dX3_readObject_135 : decode cX3_readObject 135 = .ok (.iload 4, 2) := by decide +kernel
theorem dX3_readObject_137 : decode cX3_readObject 137 = .ok (.invokestatic 71, 3) := by decide +kernel
theorem dX3_readObject_140 : decode cX3_readObject 140 = .ok (.ior, 1) := by decide +kernel
theorem dX3_readObject_141 : decode cX3_readObject 141 = .ok (.iastore, 1) := by decide +kernel
theorem dX3_readObject_142 : decode cX3_readObject 142 = .ok (.aload_n 1, 1) := by decide +kernel
theorem dX3_readObject_143 : decode cX3_readObject 143 = .ok (.getfield 82, 3) := by decide +kernel
theorem dX3_readObject_146 : decode cX3_readObject 146 = .ok (.iload 4, 2) := by decide +kernel
theorem dX3_readObject_148 : decode cX3_readObject 148 = .ok (.iaload, 1) := by decide +kernel
theorem dX3_readObject_149 : decode cX3_readObject 149 = .ok (.aload_n 1, 1) := by decide +kernel
theorem dX3_readObject_150 : decode cX3_readObject 150 = .ok (.getfield 82, 3) := by decide +kernel
theorem dX3_readObject_153 : decode cX3_readObject 153 = .ok (.iload_n 2, 1) := by decide +kernel
theorem dX3_readObject_154 : decode cX3_readObject 154 = .ok (.iaload, 1) := by decide +kernel
theorem dX3_readObject_155 : decode cX3_readObject 155 = .ok (.if_icmp .ne 17, 3) := by decide +kernel
theorem dX3_readObject_158 : decode cX3_readObject 158 = .ok (.aload_n 0, 1) := by decide +kernel
theorem dX3_readObject_159 : decode cX3_readObject 159 = .ok (.getfield 46, 3) := by decide +kernel
theorem dX3_readObject_162 : decode cX3_readObject 162 = .ok (.iload_n 2, 1) := by decide +kernel
theorem dX3_readObject_163 : decode cX3_readObject 163 = .ok (.dup2, 1) := by decide +kernel
theorem dX3_readObject_164 : decode cX3_readObject 164 = .ok (.iaload, 1) := by decide +kernel
theorem dX3_readObject_165 : decode cX3_readObject 165 = .ok (.iload 4, 2) := by decide +kernel
theorem dX3_readObject_167 : decode cX3_readObject 167 = .ok (.invokestatic 71, 3) := by decide +kernel
theorem dX3_readObject_170 : decode cX3_readObject 170 = .ok (.ior, 1) := by decide +kernel
theorem dX3_readObject_171 : decode cX3_readObject 171 = .ok (.iastore, 1) := by decide +kernel
theorem dX3_readObject_172 : decode cX3_readObject 172 = .ok (.iinc 4 1, 3) := by decide +kernel
theorem dX3_readObject_175 : decode cX3_readObject 175 = .ok (.goto (-66), 3) := by decide +kernel
theorem dX3_readObject_178 : decode cX3_readObject 178 = .ok (.return_, 1) := by decide +kernel
theorem dX4_addRequirement_0 : decode cX4_addRequirement 0 = .ok (.aload_n 0, 1) := by decide +kernel
theorem dX4_addRequirement_1 : decode cX4_addRequirement 1 = .ok (.getfield 37, 3) := by decide +kernel
theorem dX4_addRequirement_4 : decode cX4_addRequirement 4 = .ok (.iconst 4, 1) := by decide +kernel
theorem dX4_addRequirement_5 : decode cX4_addRequirement 5 = .ok (.if_icmp .lt 4, 3) := by decide +kernel
theorem dX4_addRequirement_8 : decode cX4_addRequirement 8 = .ok (.return_, 1) := by decide +kernel
theorem dX4_addRequirement_9 : decode cX4_addRequirement 9 = .ok (.aload_n 0, 1) := by decide +kernel
theorem dX4_addRequirement_10 : decode cX4_addRequirement 10 = .ok (.getfield 40, 3) := by decide +kernel
theorem dX4_addRequirement_13 : decode cX4_addRequirement 13 = .ok (.aload_n 0, 1) := by decide +kernel
theorem dX4_addRequirement_14 : decode cX4_addRequirement 14 = .ok (.getfield 37, 3) := by decide +kernel
theorem dX4_addRequirement_17 : decode cX4_addRequirement 17 = .ok (.iload_n 1, 1) := by decide +kernel
theorem dX4_addRequirement_18 : decode cX4_addRequirement 18 = .ok (.iastore, 1) := by decide +kernel
theorem dX4_addRequirement_19 : decode cX4_addRequirement 19 = .ok (.aload_n 0, 1) := by decide +kernel
theorem dX4_addRequirement_20 : decode cX4_addRequirement 20 = .ok (.getfield 43, 3) := by decide +kernel
theorem dX4_addRequirement_23 : decode cX4_addRequirement 23 = .ok (.aload_n 0, 1) := by decide +kernel
theorem dX4_addRequirement_24 : decode cX4_addRequirement 24 = .ok (.getfield 37, 3) := by decide +kernel
theorem dX4_addRequirement_27 : decode cX4_addRequirement 27 = .ok (.iload_n 2, 1) := by decide +kernel
theorem dX4_addRequirement_28 : decode cX4_addRequirement 28 = .ok (.iastore, 1) := by decide +kernel
theorem dX4_addRequirement_29 : decode cX4_addRequirement 29 = .ok (.aload_n 0, 1) := by decide +kernel
theorem dX4_addRequirement_30 : decode cX4_addRequirement 30 = .ok (.dup, 1) := by decide +kernel
theorem dX4_addRequirement_31 : decode cX4_addRequirement 31 = .ok (.getfield 37, 3) := by decide +kernel
theorem dX4_addRequirement_34 : decode cX4_addRequirement 34 = .ok (.iconst 1, 1) := by decide +kernel
theorem dX4_addRequirement_35 : decode cX4_addRequirement 35 = .ok (.iadd, 1) := by decide +kernel
theorem dX4_addRequirement_36 : decode cX4_addRequirement 36 = .ok (.putfield 37, 3) := by decide +kernel
theorem dX4_addRequirement_39 : decode cX4_addRequirement 39 = .ok (.return_, 1) := by decide +kernel
theorem dX4_addToRun_0 : decode cX4_addToRun 0 = .ok (.iload_n 2, 1) := by decide +kernel
theorem dX4_addToRun_1 : decode cX4_addToRun 1 = .ok (.aload_n 0, 1) := by decide +kernel
theorem dX4_addToRun_2 : decode cX4_addToRun 2 = .ok (.getfield 46, 3) := by decide +kernel
theorem dX4_addToRun_5 : decode cX4_addToRun 5 = .ok (.iload_n 1, 1) := by decide +kernel
theorem dX4_addToRun_6 : decode cX4_addToRun 6 = .ok (.iaload, 1) := by decide +kernel
theorem dX4_addToRun_7 : decode cX4_addToRun 7 = .ok (.iconst (-1), 1) := by decide +kernel
theorem dX4_addToRun_8 : decode cX4_addToRun 8 = .ok (.ixor, 1) := by decide +kernel
theorem dX4_addToRun_9 : decode cX4_addToRun 9 = .ok (.iand, 1) := by decide +kernel
theorem dX4_addToRun_10 : decode cX4_addToRun 10 = .ok (.istore_n 3, 1) := by decide +kernel
theorem dX4_addToRun_11 : decode cX4_addToRun 11 = .ok (.aload_n 0, 1) := by decide +kernel
theorem dX4_addToRun_12 : decode cX4_addToRun 12 = .ok (.getfield 46, 3) := by decide +kernel
theorem dX4_addToRun_15 : decode cX4_addToRun 15 = .ok (.iload_n 1, 1) := by decide +kernel
theorem dX4_addToRun_16 : decode cX4_addToRun 16 = .ok (.dup2, 1) := by decide +kernel
theorem dX4_addToRun_17 : decode cX4_addToRun 17 = .ok (.iaload, 1) := by decide +kernel
theorem dX4_addToRun_18 : decode cX4_addToRun 18 = .ok (.iload_n 3, 1) := by decide +kernel
theorem dX4_addToRun_19 : decode cX4_addToRun 19 = .ok (.ior, 1) := by decide +kernel
theorem dX4_addToRun_20 : decode cX4_addToRun 20 = .ok (.iastore, 1) := by decide +kernel
theorem dX4_addToRun_21 : decode cX4_addToRun 21 = .ok (.iload_n 3, 1) := by decide +kernel
theorem dX4_addToRun_22 : decode cX4_addToRun 22 = .ok (.invokestatic 82, 3) := by decide +kernel
theorem dX4_addToRun_25 : decode cX4_addToRun 25 = .ok (.ireturn, 1) := by decide +kernel
theorem dX4_canHold_0 : decode cX4_canHold 0 = .ok (.aload_n 0, 1) := by decide +kernel
theorem dX4_canHold_1 : decode cX4_canHold 1 = .ok (.iload_n 1, 1) := by decide +kernel
theorem dX4_canHold_2 : decode cX4_canHold 2 = .ok (.invokevirtual 61, 3) := by decide +kernel
theorem dX4_canHold_5 : decode cX4_canHold 5 = .ok (.ifCond .eq 26, 3) := by decide +kernel
theorem dX4_canHold_8 : decode cX4_canHold 8 = .ok (.aload_n 0, 1) := by decide +kernel
theorem dX4_canHold_9 : decode cX4_canHold 9 = .ok (.getfield 15, 3) := by decide +kernel
theorem dX4_canHold_12 : decode cX4_canHold 12 = .ok (.iload_n 1, 1) := by decide +kernel
theorem dX4_canHold_13 : decode cX4_canHold 13 = .ok (.iaload, 1) := by decide +kernel
theorem dX4_canHold_14 : decode cX4_canHold 14 = .ok (.ifCond .eq 13, 3) := by decide +kernel
theorem dX4_canHold_17 : decode cX4_canHold 17 = .ok (.aload_n 0, 1) := by decide +kernel
theorem dX4_canHold_18 : decode cX4_canHold 18 = .ok (.getfield 15, 3) := by decide +kernel
theorem dX4_canHold_21 : decode cX4_canHold 21 = .ok (.iload_n 1, 1) := by decide +kernel
theorem dX4_canHold_22 : decode cX4_canHold 22 = .ok (.iaload, 1) := by decide +kernel
theorem dX4_canHold_23 : decode cX4_canHold 23 = .ok (.iconst 3, 1) := by decide +kernel
theorem dX4_canHold_24 : decode cX4_canHold 24 = .ok (.if_icmp .ne 7, 3) := by decide +kernel
theorem dX4_canHold_27 : decode cX4_canHold 27 = .ok (.iconst 1, 1) := by decide +kernel
theorem dX4_canHold_28 : decode cX4_canHold 28 = .ok (.goto 4, 3) := by decide +kernel
theorem dX4_canHold_31 : decode cX4_canHold 31 = .ok (.iconst 0, 1) := by decide +kernel
theorem dX4_canHold_32 : decode cX4_canHold 32 = .ok (.ireturn, 1) := by decide +kernel
theorem dX4_copyFrom_0 : decode cX4_copyFrom 0 = .ok (.aload_n 0, 1) := by decide +kernel
theorem dX4_copyFrom_1 : decode cX4_copyFrom 1 = .ok (.aload_n 1, 1) := by decide +kernel
theorem dX4_copyFrom_2 : decode cX4_copyFrom 2 = .ok (.getfield 9, 3) := by decide +kernel
theorem dX4_copyFrom_5 : decode cX4_copyFrom 5 = .ok (.putfield 9, 3) := by decide +kernel
theorem dX4_copyFrom_8 : decode cX4_copyFrom 8 = .ok (.aload_n 1, 1) := by decide +kernel
theorem dX4_copyFrom_9 : decode cX4_copyFrom 9 = .ok (.getfield 15, 3) := by decide +kernel
theorem dX4_copyFrom_12 : decode cX4_copyFrom 12 = .ok (.iconst 0, 1) := by decide +kernel
theorem dX4_copyFrom_13 : decode cX4_copyFrom 13 = .ok (.aload_n 0, 1) := by decide +kernel
theorem dX4_copyFrom_14 : decode cX4_copyFrom 14 = .ok (.getfield 15, 3) := by decide +kernel
theorem dX4_copyFrom_17 : decode cX4_copyFrom 17 = .ok (.iconst 0, 1) := by decide +kernel
theorem dX4_copyFrom_18 : decode cX4_copyFrom 18 = .ok (.bipush 10, 2) := by decide +kernel
theorem dX4_copyFrom_20 : decode cX4_copyFrom 20 = .ok (.invokestatic 55, 3) := by decide +kernel
theorem dX4_copyFrom_23 : decode cX4_copyFrom 23 = .ok (.aload_n 1, 1) := by decide +kernel
theorem dX4_copyFrom_24 : decode cX4_copyFrom 24 = .ok (.getfield 19, 3) := by decide +kernel
theorem dX4_copyFrom_27 : decode cX4_copyFrom 27 = .ok (.iconst 0, 1) := by decide +kernel
theorem dX4_copyFrom_28 : decode cX4_copyFrom 28 = .ok (.aload_n 0, 1) := by decide +kernel
theorem dX4_copyFrom_29 : decode cX4_copyFrom 29 = .ok (.getfield 19, 3) := by decide +kernel
theorem dX4_copyFrom_32 : decode cX4_copyFrom 32 = .ok (.iconst 0, 1) := by decide +kernel
theorem dX4_copyFrom_33 : decode cX4_copyFrom 33 = .ok (.bipush 10, 2) := by decide +kernel
theorem dX4_copyFrom_35 : decode cX4_copyFrom 35 = .ok (.invokestatic 55, 3) := by decide +kernel
theorem dX4_copyFrom_38 : decode cX4_copyFrom 38 = .ok (.aload_n 1, 1) := by decide +kernel
theorem dX4_copyFrom_39 : decode cX4_copyFrom 39 = .ok (.getfield 22, 3) := by decide +kernel
theorem dX4_copyFrom_42 : decode cX4_copyFrom 42 = .ok (.iconst 0, 1) := by decide +kernel
theorem dX4_copyFrom_43 : decode cX4_copyFrom 43 = .ok (.aload_n 0, 1) := by decide +kernel
theorem dX4_copyFrom_44 : decode cX4_copyFrom 44 = .ok (.getfield 22, 3) := by decide +kernel
theorem dX4_copyFrom_47 : decode cX4_copyFrom 47 = .ok (.iconst 0, 1) := by decide +kernel
theorem dX4_copyFrom_48 : decode cX4_copyFrom 48 = .ok (.bipush 10, 2) := by decide +kernel
theorem dX4_copyFrom_50 : decode cX4_copyFrom 50 = .ok (.invokestatic 55, 3) := by decide +kernel
theorem dX4_copyFrom_53 : decode cX4_copyFrom 53 = .ok (.aload_n 1, 1) := by decide +kernel
theorem dX4_copyFrom_54 : decode cX4_copyFrom 54 = .ok (.getfield 25, 3) := by decide +kernel
theorem dX4_copyFrom_57 : decode cX4_copyFrom 57 = .ok (.iconst 0, 1) := by decide +kernel
theorem dX4_copyFrom_58 : decode cX4_copyFrom 58 = .ok (.aload_n 0, 1) := by decide +kernel
theorem dX4_copyFrom_59 : decode cX4_copyFrom 59 = .ok (.getfield 25, 3) := by decide +kernel
theorem dX4_copyFrom_62 : decode cX4_copyFrom 62 = .ok (.iconst 0, 1) := by decide +kernel
theorem dX4_copyFrom_63 : decode cX4_copyFrom 63 = .ok (.bipush 10, 2) := by decide +kernel
theorem dX4_copyFrom_65 : decode cX4_copyFrom 65 = .ok (.invokestatic 55, 3) := by decide +kernel
theorem dX4_copyFrom_68 : decode cX4_copyFrom 68 = .ok (.aload_n 0, 1) := by decide +kernel
theorem dX4_copyFrom_69 : decode cX4_copyFrom 69 = .ok (.aload_n 1, 1) := by decide +kernel
theorem dX4_copyFrom_70 : decode cX4_copyFrom 70 = .ok (.getfield 28, 3) := by decide +kernel
theorem dX4_copyFrom_73 : decode cX4_copyFrom 73 = .ok (.putfield 28, 3) := by decide +kernel
theorem dX4_copyFrom_76 : decode cX4_copyFrom 76 = .ok (.aload_n 1, 1) := by decide +kernel
theorem dX4_copyFrom_77 : decode cX4_copyFrom 77 = .ok (.getfield 31, 3) := by decide +kernel
theorem dX4_copyFrom_80 : decode cX4_copyFrom 80 = .ok (.iconst 0, 1) := by decide +kernel
theorem dX4_copyFrom_81 : decode cX4_copyFrom 81 = .ok (.aload_n 0, 1) := by decide +kernel
theorem dX4_copyFrom_82 : decode cX4_copyFrom 82 = .ok (.getfield 31, 3) := by decide +kernel
theorem dX4_copyFrom_85 : decode cX4_copyFrom 85 = .ok (.iconst 0, 1) := by decide +kernel
theorem dX4_copyFrom_86 : decode cX4_copyFrom 86 = .ok (.bipush 10, 2) := by decide +kernel
theorem dX4_copyFrom_88 : decode cX4_copyFrom 88 = .ok (.invokestatic 55, 3) := by decide +kernel
theorem dX4_copyFrom_91 : decode cX4_copyFrom 91 = .ok (.aload_n 1, 1) := by decide +kernel
theorem dX4_copyFrom_92 : decode cX4_copyFrom 92 = .ok (.getfield 34, 3) := by decide +kernel
theorem dX4_copyFrom_95 : decode cX4_copyFrom 95 = .ok (.iconst 0, 1) := by decide +kernel
theorem dX4_copyFrom_96 : decode cX4_copyFrom 96 = .ok (.aload_n 0, 1) := by decide +kernel
theorem dX4_copyFrom_97 : decode cX4_copyFrom 97 = .ok (.getfield 34, 3) := by decide +kernel
theorem dX4_copyFrom_100 : decode cX4_copyFrom 100 = .ok (.iconst 0, 1) := by decide +kernel
theorem dX4_copyFrom_101 : decode cX4_copyFrom 101 = .ok (.bipush 10, 2) := by decide +kernel
theorem dX4_copyFrom_103 : decode cX4_copyFrom 103 = .ok (.invokestatic 55, 3) := by decide +kernel
theorem dX4_copyFrom_106 : decode cX4_copyFrom 106 = .ok (.aload_n 0, 1) := by decide +kernel
theorem dX4_copyFrom_107 : decode cX4_copyFrom 107 = .ok (.aload_n 1, 1) := by decide +kernel
theorem dX4_copyFrom_108 : decode cX4_copyFrom 108 = .ok (.getfield 37, 3) := by decide +kernel
theorem dX4_copyFrom_111 : decode cX4_copyFrom 111 = .ok (.putfield 37, 3) := by decide +kernel
theorem dX4_copyFrom_114 : decode cX4_copyFrom 114 = .ok (.aload_n 1, 1) := by decide +kernel
theorem dX4_copyFrom_115 : decode cX4_copyFrom 115 = .ok (.getfield 40, 3) := by decide +kernel
theorem dX4_copyFrom_118 : decode cX4_copyFrom 118 = .ok (.iconst 0, 1) := by decide +kernel
theorem dX4_copyFrom_119 : decode cX4_copyFrom 119 = .ok (.aload_n 0, 1) := by decide +kernel
theorem dX4_copyFrom_120 : decode cX4_copyFrom 120 = .ok (.getfield 40, 3) := by decide +kernel
theorem dX4_copyFrom_123 : decode cX4_copyFrom 123 = .ok (.iconst 0, 1) := by decide +kernel
theorem dX4_copyFrom_124 : decode cX4_copyFrom 124 = .ok (.iconst 4, 1) := by decide +kernel
theorem dX4_copyFrom_125 : decode cX4_copyFrom 125 = .ok (.invokestatic 55, 3) := by decide +kernel
theorem dX4_copyFrom_128 : decode cX4_copyFrom 128 = .ok (.aload_n 1, 1) := by decide +kernel
theorem dX4_copyFrom_129 : decode cX4_copyFrom 129 = .ok (.getfield 43, 3) := by decide +kernel
theorem dX4_copyFrom_132 : decode cX4_copyFrom 132 = .ok (.iconst 0, 1) := by decide +kernel
theorem dX4_copyFrom_133 : decode cX4_copyFrom 133 = .ok (.aload_n 0, 1) := by decide +kernel
theorem dX4_copyFrom_134 : decode cX4_copyFrom 134 = .ok (.getfield 43, 3) := by decide +kernel
theorem dX4_copyFrom_137 : decode cX4_copyFrom 137 = .ok (.iconst 0, 1) := by decide +kernel
theorem dX4_copyFrom_138 : decode cX4_copyFrom 138 = .ok (.iconst 4, 1) := by decide +kernel
theorem dX4_copyFrom_139 : decode cX4_copyFrom 139 = .ok (.invokestatic 55, 3) := by decide +kernel
theorem dX4_copyFrom_142 : decode cX4_copyFrom 142 = .ok (.aload_n 1, 1) := by decide +kernel
theorem dX4_copyFrom_143 : decode cX4_copyFrom 143 = .ok (.getfield 46, 3) := by decide +kernel
theorem dX4_copyFrom_146 : decode cX4_copyFrom 146 = .ok (.iconst 0, 1) := by decide +kernel
theorem dX4_copyFrom_147 : decode cX4_copyFrom 147 = .ok (.aload_n 0, 1) := by decide +kernel
theorem dX4_copyFrom_148 : decode cX4_copyFrom 148 = .ok (.getfield 46, 3) := by decide +kernel
theorem dX4_copyFrom_151 : decode cX4_copyFrom 151 = .ok (.iconst 0, 1) := by decide +kernel
theorem dX4_copyFrom_152 : decode cX4_copyFrom 152 = .ok (.bipush 10, 2) := by decide +kernel
theorem dX4_copyFrom_154 : decode cX4_copyFrom 154 = .ok (.invokestatic 55, 3) := by decide +kernel
theorem dX4_copyFrom_157 : decode cX4_copyFrom 157 = .ok (.return_, 1) := by decide +kernel
theorem dX4_countRun_0 : decode cX4_countRun 0 = .ok (.iconst 0, 1) := by decide +kernel
theorem dX4_countRun_1 : decode cX4_countRun 1 = .ok (.istore_n 1, 1) := by decide +kernel
theorem dX4_countRun_2 : decode cX4_countRun 2 = .ok (.iconst 0, 1) := by decide +kernel
theorem dX4_countRun_3 : decode cX4_countRun 3 = .ok (.istore_n 2, 1) := by decide +kernel
theorem dX4_countRun_4 : decode cX4_countRun 4 = .ok (.iload_n 2, 1) := by decide +kernel
theorem dX4_countRun_5 : decode cX4_countRun 5 = .ok (.bipush 10, 2) := by decide +kernel
theorem dX4_countRun_7 : decode cX4_countRun 7 = .ok (.if_icmp .ge 21, 3) := by decide +kernel
theorem dX4_countRun_10 : decode cX4_countRun 10 = .ok (.iload_n 1, 1) := by decide +kernel
theorem dX4_countRun_11 : decode cX4_countRun 11 = .ok (.aload_n 0, 1) := by decide +kernel
theorem dX4_countRun_12 : decode cX4_countRun 12 = .ok (.getfield 46, 3) := by decide +kernel
theorem dX4_countRun_15 : decode cX4_countRun 15 = .ok (.iload_n 2, 1) := by decide +kernel
theorem dX4_countRun_16 : decode cX4_countRun 16 = .ok (.iaload, 1) := by decide +kernel
theorem dX4_countRun_17 : decode cX4_countRun 17 = .ok (.invokestatic 82, 3) := by decide +kernel
theorem dX4_countRun_20 : decode cX4_countRun 20 = .ok (.iadd, 1) := by decide +kernel
theorem dX4_countRun_21 : decode cX4_countRun 21 = .ok (.istore_n 1, 1) := by decide +kernel
theorem dX4_countRun_22 : decode cX4_countRun 22 = .ok (.iinc 2 1, 3) := by decide +kernel
theorem dX4_countRun_25 : decode cX4_countRun 25 = .ok (.goto (-21), 3) := by decide +kernel
theorem dX4_countRun_28 : decode cX4_countRun 28 = .ok (.iload_n 1, 1) := by decide +kernel
theorem dX4_countRun_29 : decode cX4_countRun 29 = .ok (.ireturn, 1) := by decide +kernel
theorem dX4_countViolations_0 : decode cX4_countViolations 0 = .ok (.iconst 0, 1) := by decide +kernel
theorem dX4_countViolations_1 : decode cX4_countViolations 1 = .ok (.istore_n 2, 1) := by decide +kernel
theorem dX4_countViolations_2 : decode cX4_countViolations 2 = .ok (.iconst 0, 1) := by decide +kernel
theorem dX4_countViolations_3 : decode cX4_countViolations 3 = .ok (.istore_n 3, 1) := by decide +kernel
theorem dX4_countViolations_4 : decode cX4_countViolations 4 = .ok (.iload_n 3, 1) := by decide +kernel
theorem dX4_countViolations_5 : decode cX4_countViolations 5 = .ok (.aload_n 0, 1) := by decide +kernel
theorem dX4_countViolations_6 : decode cX4_countViolations 6 = .ok (.getfield 37, 3) := by decide +kernel
theorem dX4_countViolations_9 : decode cX4_countViolations 9 = .ok (.if_icmp .ge 32, 3) := by decide +kernel
theorem dX4_countViolations_12 : decode cX4_countViolations 12 = .ok (.aload_n 1, 1) := by decide +kernel
theorem dX4_countViolations_13 : decode cX4_countViolations 13 = .ok (.aload_n 0, 1) := by decide +kernel
theorem dX4_countViolations_14 : decode cX4_countViolations 14 = .ok (.getfield 40, 3) := by decide +kernel
theorem dX4_countViolations_17 : decode cX4_countViolations 17 = .ok (.iload_n 3, 1) := by decide +kernel
theorem dX4_countViolations_18 : decode cX4_countViolations 18 = .ok (.iaload, 1) := by decide +kernel
theorem dX4_countViolations_19 : decode cX4_countViolations 19 = .ok (.iaload, 1) := by decide +kernel
theorem dX4_countViolations_20 : decode cX4_countViolations 20 = .ok (.aload_n 0, 1) := by decide +kernel
theorem dX4_countViolations_21 : decode cX4_countViolations 21 = .ok (.getfield 43, 3) := by decide +kernel
theorem dX4_countViolations_24 : decode cX4_countViolations 24 = .ok (.iload_n 3, 1) := by decide +kernel
theorem dX4_countViolations_25 : decode cX4_countViolations 25 = .ok (.iaload, 1) := by decide +kernel
theorem dX4_countViolations_26 : decode cX4_countViolations 26 = .ok (.invokestatic 72, 3) := by decide +kernel
theorem dX4_countViolations_29 : decode cX4_countViolations 29 = .ok (.ifCond .eq 6, 3) := by decide +kernel
theorem dX4_countViolations_32 : decode cX4_countViolations 32 = .ok (.iinc 2 1, 3) := by decide +kernel
theorem dX4_countViolations_35 : decode cX4_countViolations 35 = .ok (.iinc 3 1, 3) := by decide +kernel
theorem dX4_countViolations_38 : decode cX4_countViolations 38 = .ok (.goto (-34), 3) := by decide +kernel
theorem dX4_countViolations_41 : decode cX4_countViolations 41 = .ok (.iload_n 2, 1) := by decide +kernel
theorem dX4_countViolations_42 : decode cX4_countViolations 42 = .ok (.ireturn, 1) := by decide +kernel
theorem dX4_declareObject_0 : decode cX4_declareObject 0 = .ok (.aload_n 0, 1) := by decide +kernel
theorem dX4_declareObject_1 : decode cX4_declareObject 1 = .ok (.getfield 9, 3) := by decide +kernel
theorem dX4_declareObject_4 : decode cX4_declareObject 4 = .ok (.bipush 10, 2) := by decide +kernel
theorem dX4_declareObject_6 : decode cX4_declareObject 6 = .ok (.if_icmp .lt 4, 3) := by decide +kernel
theorem dX4_declareObject_9 : decode cX4_declareObject 9 = .ok (.return_, 1) := by decide +kernel
theorem dX4_declareObject_10 : decode cX4_declareObject 10 = .ok (.aload_n 0, 1) := by decide +kernel
theorem dX4_declareObject_11 : decode cX4_declareObject 11 = .ok (.getfield 15, 3) := by decide +kernel
theorem dX4_declareObject_14 : decode cX4_declareObject 14 = .ok (.aload_n 0, 1) := by decide +kernel
theorem dX4_declareObject_15 : decode cX4_declareObject 15 = .ok (.getfield 9, 3) := by decide +kernel
theorem dX4_declareObject_18 : decode cX4_declareObject 18 = .ok (.iload_n 1, 1) := by decide +kernel
theorem dX4_declareObject_19 : decode cX4_declareObject 19 = .ok (.iastore, 1) := by decide +kernel
theorem dX4_declareObject_20 : decode cX4_declareObject 20 = .ok (.aload_n 0, 1) := by decide +kernel
theorem dX4_declareObject_21 : decode cX4_declareObject 21 = .ok (.getfield 19, 3) := by decide +kernel
theorem dX4_declareObject_24 : decode cX4_declareObject 24 = .ok (.aload_n 0, 1) := by decide +kernel
theorem dX4_declareObject_25 : decode cX4_declareObject 25 = .ok (.getfield 9, 3) := by decide +kernel
theorem dX4_declareObject_28 : decode cX4_declareObject 28 = .ok (.iload_n 2, 1) := by decide +kernel
theorem dX4_declareObject_29 : decode cX4_declareObject 29 = .ok (.iastore, 1) := by decide +kernel
theorem dX4_declareObject_30 : decode cX4_declareObject 30 = .ok (.aload_n 0, 1) := by decide +kernel
theorem dX4_declareObject_31 : decode cX4_declareObject 31 = .ok (.getfield 22, 3) := by decide +kernel
theorem dX4_declareObject_34 : decode cX4_declareObject 34 = .ok (.aload_n 0, 1) := by decide +kernel
theorem dX4_declareObject_35 : decode cX4_declareObject 35 = .ok (.getfield 9, 3) := by decide +kernel
theorem dX4_declareObject_38 : decode cX4_declareObject 38 = .ok (.iload_n 3, 1) := by decide +kernel
theorem dX4_declareObject_39 : decode cX4_declareObject 39 = .ok (.iastore, 1) := by decide +kernel
theorem dX4_declareObject_40 : decode cX4_declareObject 40 = .ok (.aload_n 0, 1) := by decide +kernel
theorem dX4_declareObject_41 : decode cX4_declareObject 41 = .ok (.getfield 25, 3) := by decide +kernel
theorem dX4_declareObject_44 : decode cX4_declareObject 44 = .ok (.aload_n 0, 1) := by decide +kernel
theorem dX4_declareObject_45 : decode cX4_declareObject 45 = .ok (.getfield 9, 3) := by decide +kernel
theorem dX4_declareObject_48 : decode cX4_declareObject 48 = .ok (.iload 4, 2) := by decide +kernel
theorem dX4_declareObject_50 : decode cX4_declareObject 50 = .ok (.iastore, 1) := by decide +kernel
theorem dX4_declareObject_51 : decode cX4_declareObject 51 = .ok (.aload_n 0, 1) := by decide +kernel
theorem dX4_declareObject_52 : decode cX4_declareObject 52 = .ok (.dup, 1) := by decide +kernel
theorem dX4_declareObject_53 : decode cX4_declareObject 53 = .ok (.getfield 9, 3) := by decide +kernel
theorem dX4_declareObject_56 : decode cX4_declareObject 56 = .ok (.iconst 1, 1) := by decide +kernel
theorem dX4_declareObject_57 : decode cX4_declareObject 57 = .ok (.iadd, 1) := by decide +kernel
theorem dX4_declareObject_58 : decode cX4_declareObject 58 = .ok (.putfield 9, 3) := by decide +kernel
theorem dX4_declareObject_61 : decode cX4_declareObject 61 = .ok (.return_, 1) := by decide +kernel
theorem dX4_dropRequirement_0 : decode cX4_dropRequirement 0 = .ok (.iload_n 1, 1) := by decide +kernel
theorem dX4_dropRequirement_1 : decode cX4_dropRequirement 1 = .ok (.istore_n 2, 1) := by decide +kernel
theorem dX4_dropRequirement_2 : decode cX4_dropRequirement 2 = .ok (.iload_n 2, 1) := by decide +kernel
theorem dX4_dropRequirement_3 : decode cX4_dropRequirement 3 = .ok (.iconst 1, 1) := by decide +kernel
theorem dX4_dropRequirement_4 : decode cX4_dropRequirement 4 = .ok (.iadd, 1) := by decide +kernel
theorem dX4_dropRequirement_5 : decode cX4_dropRequirement 5 = .ok (.aload_n 0, 1) := by decide +kernel
theorem dX4_dropRequirement_6 : decode cX4_dropRequirement 6 = .ok (.getfield 37, 3) := by decide +kernel
theorem dX4_dropRequirement_9 : decode cX4_dropRequirement 9 = .ok (.if_icmp .ge 37, 3) := by decide +kernel
theorem dX4_dropRequirement_12 : decode cX4_dropRequirement 12 = .ok (.aload_n 0, 1) := by decide +kernel
theorem dX4_dropRequirement_13 : decode cX4_dropRequirement 13 = .ok (.getfield 40, 3) := by decide +kernel
theorem dX4_dropRequirement_16 : decode cX4_dropRequirement 16 = .ok (.iload_n 2, 1) := by decide +kernel
theorem dX4_dropRequirement_17 : decode cX4_dropRequirement 17 = .ok (.aload_n 0, 1) := by decide +kernel
theorem dX4_dropRequirement_18 : decode cX4_dropRequirement 18 = .ok (.getfield 40, 3) := by decide +kernel
theorem dX4_dropRequirement_21 : decode cX4_dropRequirement 21 = .ok (.iload_n 2, 1) := by decide +kernel
theorem dX4_dropRequirement_22 : decode cX4_dropRequirement 22 = .ok (.iconst 1, 1) := by decide +kernel
theorem dX4_dropRequirement_23 : decode cX4_dropRequirement 23 = .ok (.iadd, 1) := by decide +kernel
theorem dX4_dropRequirement_24 : decode cX4_dropRequirement 24 = .ok (.iaload, 1) := by decide +kernel
theorem dX4_dropRequirement_25 : decode cX4_dropRequirement 25 = .ok (.iastore, 1) := by decide +kernel
theorem dX4_dropRequirement_26 : decode cX4_dropRequirement 26 = .ok (.aload_n 0, 1) := by decide +kernel
theorem dX4_dropRequirement_27 : decode cX4_dropRequirement 27 = .ok (.getfield 43, 3) := by decide +kernel
theorem dX4_dropRequirement_30 : decode cX4_dropRequirement 30 = .ok (.iload_n 2, 1) := by decide +kernel
theorem dX4_dropRequirement_31 : decode cX4_dropRequirement 31 = .ok (.aload_n 0, 1) := by decide +kernel
theorem dX4_dropRequirement_32 : decode cX4_dropRequirement 32 = .ok (.getfield 43, 3) := by decide +kernel
theorem dX4_dropRequirement_35 : decode cX4_dropRequirement 35 = .ok (.iload_n 2, 1) := by decide +kernel
theorem dX4_dropRequirement_36 : decode cX4_dropRequirement 36 = .ok (.iconst 1, 1) := by decide +kernel
theorem dX4_dropRequirement_37 : decode cX4_dropRequirement 37 = .ok (.iadd, 1) := by decide +kernel
theorem dX4_dropRequirement_38 : decode cX4_dropRequirement 38 = .ok (.iaload, 1) := by decide +kernel
theorem dX4_dropRequirement_39 : decode cX4_dropRequirement 39 = .ok (.iastore, 1) := by decide +kernel
theorem dX4_dropRequirement_40 : decode cX4_dropRequirement 40 = .ok (.iinc 2 1, 3) := by decide +kernel
theorem dX4_dropRequirement_43 : decode cX4_dropRequirement 43 = .ok (.goto (-41), 3) := by decide +kernel
theorem dX4_dropRequirement_46 : decode cX4_dropRequirement 46 = .ok (.aload_n 0, 1) := by decide +kernel
theorem dX4_dropRequirement_47 : decode cX4_dropRequirement 47 = .ok (.dup, 1) := by decide +kernel
theorem dX4_dropRequirement_48 : decode cX4_dropRequirement 48 = .ok (.getfield 37, 3) := by decide +kernel
theorem dX4_dropRequirement_51 : decode cX4_dropRequirement 51 = .ok (.iconst 1, 1) := by decide +kernel
theorem dX4_dropRequirement_52 : decode cX4_dropRequirement 52 = .ok (.isub, 1) := by decide +kernel
theorem dX4_dropRequirement_53 : decode cX4_dropRequirement 53 = .ok (.putfield 37, 3) := by decide +kernel
theorem dX4_dropRequirement_56 : decode cX4_dropRequirement 56 = .ok (.return_, 1) := by decide +kernel
theorem dX4_fillInitialRows_0 : decode cX4_fillInitialRows 0 = .ok (.aload_n 1, 1) := by decide +kernel
theorem dX4_fillInitialRows_1 : decode cX4_fillInitialRows 1 = .ok (.iconst 0, 1) := by decide +kernel
theorem dX4_fillInitialRows_2 : decode cX4_fillInitialRows 2 = .ok (.invokestatic 49, 3) := by decide +kernel
theorem dX4_fillInitialRows_5 : decode cX4_fillInitialRows 5 = .ok (.iconst 0, 1) := by decide +kernel
theorem dX4_fillInitialRows_6 : decode cX4_fillInitialRows 6 = .ok (.istore_n 3, 1) := by decide +kernel
theorem dX4_fillInitialRows_7 : decode cX4_fillInitialRows 7 = .ok (.iload_n 3, 1) := by decide +kernel
theorem dX4_fillInitialRows_8 : decode cX4_fillInitialRows 8 = .ok (.aload_n 0, 1) := by decide +kernel
theorem dX4_fillInitialRows_9 : decode cX4_fillInitialRows 9 = .ok (.getfield 28, 3) := by decide +kernel
theorem dX4_fillInitialRows_12 : decode cX4_fillInitialRows 12 = .ok (.if_icmp .ge 37, 3) := by decide +kernel
theorem dX4_fillInitialRows_15 : decode cX4_fillInitialRows 15 = .ok (.iload_n 2, 1) := by decide +kernel
theorem dX4_fillInitialRows_16 : decode cX4_fillInitialRows 16 = .ok (.iload_n 3, 1) := by decide +kernel
theorem dX4_fillInitialRows_17 : decode cX4_fillInitialRows 17 = .ok (.invokestatic 72, 3) := by decide +kernel
theorem dX4_fillInitialRows_20 : decode cX4_fillInitialRows 20 = .ok (.ifCond .ne 23, 3) := by decide +kernel
theorem dX4_fillInitialRows_23 : decode cX4_fillInitialRows 23 = .ok (.aload_n 1, 1) := by decide +kernel
theorem dX4_fillInitialRows_24 : decode cX4_fillInitialRows 24 = .ok (.aload_n 0, 1) := by decide +kernel
theorem dX4_fillInitialRows_25 : decode cX4_fillInitialRows 25 = .ok (.getfield 31, 3) := by decide +kernel
theorem dX4_fillInitialRows_28 : decode cX4_fillInitialRows 28 = .ok (.iload_n 3, 1) := by decide +kernel
theorem dX4_fillInitialRows_29 : decode cX4_fillInitialRows 29 = .ok (.iaload, 1) := by decide +kernel
theorem dX4_fillInitialRows_30 : decode cX4_fillInitialRows 30 = .ok (.dup2, 1) := by decide +kernel
theorem dX4_fillInitialRows_31 : decode cX4_fillInitialRows 31 = .ok (.iaload, 1) := by decide +kernel
theorem dX4_fillInitialRows_32 : decode cX4_fillInitialRows 32 = .ok (.aload_n 0, 1) := by decide +kernel
theorem dX4_fillInitialRows_33 : decode cX4_fillInitialRows 33 = .ok (.getfield 34, 3) := by decide +kernel
theorem dX4_fillInitialRows_36 : decode cX4_fillInitialRows 36 = .ok (.iload_n 3, 1) := by decide +kernel
theorem dX4_fillInitialRows_37 : decode cX4_fillInitialRows 37 = .ok (.iaload, 1) := by decide +kernel
theorem dX4_fillInitialRows_38 : decode cX4_fillInitialRows 38 = .ok (.invokestatic 75, 3) := by decide +kernel
theorem dX4_fillInitialRows_41 : decode cX4_fillInitialRows 41 = .ok (.ior, 1) := by decide +kernel
theorem dX4_fillInitialRows_42 : decode cX4_fillInitialRows 42 = .ok (.iastore, 1) := by decide +kernel
theorem dX4_fillInitialRows_43 : decode cX4_fillInitialRows 43 = .ok (.iinc 3 1, 3) := by decide +kernel
theorem dX4_fillInitialRows_46 : decode cX4_fillInitialRows 46 = .ok (.goto (-39), 3) := by decide +kernel
theorem dX4_fillInitialRows_49 : decode cX4_fillInitialRows 49 = .ok (.return_, 1) := by decide +kernel
theorem dX4_findRequirement_0 : decode cX4_findRequirement 0 = .ok (.iconst 0, 1) := by decide +kernel
theorem dX4_findRequirement_1 : decode cX4_findRequirement 1 = .ok (.istore_n 3, 1) := by decide +kernel
theorem dX4_findRequirement_2 : decode cX4_findRequirement 2 = .ok (.iload_n 3, 1) := by decide +kernel
theorem dX4_findRequirement_3 : decode cX4_findRequirement 3 = .ok (.aload_n 0, 1) := by decide +kernel
theorem dX4_findRequirement_4 : decode cX4_findRequirement 4 = .ok (.getfield 37, 3) := by decide +kernel
theorem dX4_findRequirement_7 : decode cX4_findRequirement 7 = .ok (.if_icmp .ge 31, 3) := by decide +kernel
theorem dX4_findRequirement_10 : decode cX4_findRequirement 10 = .ok (.aload_n 0, 1) := by decide +kernel
theorem dX4_findRequirement_11 : decode cX4_findRequirement 11 = .ok (.getfield 40, 3) := by decide +kernel
theorem dX4_findRequirement_14 : decode cX4_findRequirement 14 = .ok (.iload_n 3, 1) := by decide +kernel
theorem dX4_findRequirement_15 : decode cX4_findRequirement 15 = .ok (.iaload, 1) := by decide +kernel
theorem dX4_findRequirement_16 : decode cX4_findRequirement 16 = .ok (.iload_n 1, 1) := by decide +kernel
theorem dX4_findRequirement_17 : decode cX4_findRequirement 17 = .ok (.if_icmp .ne 15, 3) := by decide +kernel
theorem dX4_findRequirement_20 : decode cX4_findRequirement 20 = .ok (.aload_n 0, 1) := by decide +kernel
theorem dX4_findRequirement_21 : decode cX4_findRequirement 21 = .ok (.getfield 43, 3) := by decide +kernel
theorem dX4_findRequirement_24 : decode cX4_findRequirement 24 = .ok (.iload_n 3, 1) := by decide +kernel
theorem dX4_findRequirement_25 : decode cX4_findRequirement 25 = .ok (.iaload, 1) := by decide +kernel
theorem dX4_findRequirement_26 : decode cX4_findRequirement 26 = .ok (.iload_n 2, 1) := by decide +kernel
theorem dX4_findRequirement_27 : decode cX4_findRequirement 27 = .ok (.if_icmp .ne 5, 3) := by decide +kernel
theorem dX4_findRequirement_30 : decode cX4_findRequirement 30 = .ok (.iload_n 3, 1) := by decide +kernel
theorem dX4_findRequirement_31 : decode cX4_findRequirement 31 = .ok (.ireturn, 1) := by decide +kernel
theorem dX4_findRequirement_32 : decode cX4_findRequirement 32 = .ok (.iinc 3 1, 3) := by decide +kernel
theorem dX4_findRequirement_35 : decode cX4_findRequirement 35 = .ok (.goto (-33), 3) := by decide +kernel
theorem dX4_findRequirement_38 : decode cX4_findRequirement 38 = .ok (.iconst (-1), 1) := by decide +kernel
theorem dX4_findRequirement_39 : decode cX4_findRequirement 39 = .ok (.ireturn, 1) := by decide +kernel
theorem dX4_fits_0 : decode cX4_fits 0 = .ok (.aload_n 0, 1) := by decide +kernel
theorem dX4_fits_1 : decode cX4_fits 1 = .ok (.iload_n 1, 1) := by decide +kernel
theorem dX4_fits_2 : decode cX4_fits 2 = .ok (.iconst 2, 1) := by decide +kernel
theorem dX4_fits_3 : decode cX4_fits 3 = .ok (.invokevirtual 68, 3) := by decide +kernel
theorem dX4_fits_6 : decode cX4_fits 6 = .ok (.ifCond .eq 31, 3) := by decide +kernel
theorem dX4_fits_9 : decode cX4_fits 9 = .ok (.aload_n 0, 1) := by decide +kernel
theorem dX4_fits_10 : decode cX4_fits 10 = .ok (.iload_n 2, 1) := by decide +kernel
theorem dX4_fits_11 : decode cX4_fits 11 = .ok (.iconst 1, 1) := by decide +kernel
theorem dX4_fits_12 : decode cX4_fits 12 = .ok (.invokevirtual 68, 3) := by decide +kernel
theorem dX4_fits_15 : decode cX4_fits 15 = .ok (.ifCond .eq 22, 3) := by decide +kernel
theorem dX4_fits_18 : decode cX4_fits 18 = .ok (.aload_n 0, 1) := by decide +kernel
theorem dX4_fits_19 : decode cX4_fits 19 = .ok (.getfield 19, 3) := by decide +kernel
theorem dX4_fits_22 : decode cX4_fits 22 = .ok (.iload_n 1, 1) := by decide +kernel
theorem dX4_fits_23 : decode cX4_fits 23 = .ok (.iaload, 1) := by decide +kernel
theorem dX4_fits_24 : decode cX4_fits 24 = .ok (.aload_n 0, 1) := by decide +kernel
theorem dX4_fits_25 : decode cX4_fits 25 = .ok (.getfield 19, 3) := by decide +kernel
theorem dX4_fits_28 : decode cX4_fits 28 = .ok (.iload_n 2, 1) := by decide +kernel
theorem dX4_fits_29 : decode cX4_fits 29 = .ok (.iaload, 1) := by decide +kernel
theorem dX4_fits_30 : decode cX4_fits 30 = .ok (.if_icmp .ne 7, 3) := by decide +kernel
theorem dX4_fits_33 : decode cX4_fits 33 = .ok (.iconst 1, 1) := by decide +kernel
theorem dX4_fits_34 : decode cX4_fits 34 = .ok (.goto 4, 3) := by decide +kernel
theorem dX4_fits_37 : decode cX4_fits 37 = .ok (.iconst 0, 1) := by decide +kernel
theorem dX4_fits_38 : decode cX4_fits 38 = .ok (.ireturn, 1) := by decide +kernel
theorem dX4_has_0 : decode cX4_has 0 = .ok (.iload_n 1, 1) := by decide +kernel
theorem dX4_has_1 : decode cX4_has 1 = .ok (.ifCond .lt 15, 3) := by decide +kernel
theorem dX4_has_4 : decode cX4_has 4 = .ok (.iload_n 1, 1) := by decide +kernel
theorem dX4_has_5 : decode cX4_has 5 = .ok (.aload_n 0, 1) := by decide +kernel
theorem dX4_has_6 : decode cX4_has 6 = .ok (.getfield 9, 3) := by decide +kernel
theorem dX4_has_9 : decode cX4_has 9 = .ok (.if_icmp .ge 7, 3) := by decide +kernel
theorem dX4_has_12 : decode cX4_has 12 = .ok (.iconst 1, 1) := by decide +kernel
theorem dX4_has_13 : decode cX4_has 13 = .ok (.goto 4, 3) := by decide +kernel
theorem dX4_has_16 : decode cX4_has 16 = .ok (.iconst 0, 1) := by decide +kernel
theorem dX4_has_17 : decode cX4_has 17 = .ok (.ireturn, 1) := by decide +kernel
theorem dX4_hasBoth_0 : decode cX4_hasBoth 0 = .ok (.aload_n 0, 1) := by decide +kernel
theorem dX4_hasBoth_1 : decode cX4_hasBoth 1 = .ok (.iload_n 1, 1) := by decide +kernel
theorem dX4_hasBoth_2 : decode cX4_hasBoth 2 = .ok (.invokevirtual 61, 3) := by decide +kernel
theorem dX4_hasBoth_5 : decode cX4_hasBoth 5 = .ok (.ifCond .eq 15, 3) := by decide +kernel
theorem dX4_hasBoth_8 : decode cX4_hasBoth 8 = .ok (.aload_n 0, 1) := by decide +kernel
theorem dX4_hasBoth_9 : decode cX4_hasBoth 9 = .ok (.iload_n 2, 1) := by decide +kernel
theorem dX4_hasBoth_10 : decode cX4_hasBoth 10 = .ok (.invokevirtual 61, 3) := by decide +kernel
theorem dX4_hasBoth_13 : decode cX4_hasBoth 13 = .ok (.ifCond .eq 7, 3) := by decide +kernel
theorem dX4_hasBoth_16 : decode cX4_hasBoth 16 = .ok (.iconst 1, 1) := by decide +kernel
theorem dX4_hasBoth_17 : decode cX4_hasBoth 17 = .ok (.goto 4, 3) := by decide +kernel
theorem dX4_hasBoth_20 : decode cX4_hasBoth 20 = .ok (.iconst 0, 1) := by decide +kernel
theorem dX4_hasBoth_21 : decode cX4_hasBoth 21 = .ok (.ireturn, 1) := by decide +kernel
theorem dX4_init_0 : decode cX4_init 0 = .ok (.aload_n 0, 1) := by decide +kernel
theorem dX4_init_1 : decode cX4_init 1 = .ok (.invokespecial 3, 3) := by decide +kernel
theorem dX4_init_4 : decode cX4_init 4 = .ok (.aload_n 0, 1) := by decide +kernel
theorem dX4_init_5 : decode cX4_init 5 = .ok (.iconst 0, 1) := by decide +kernel
theorem dX4_init_6 : decode cX4_init 6 = .ok (.putfield 9, 3) := by decide +kernel
theorem dX4_init_9 : decode cX4_init 9 = .ok (.aload_n 0, 1) := by decide +kernel
theorem dX4_init_10 : decode cX4_init 10 = .ok (.bipush 10, 2) := by decide +kernel
theorem dX4_init_12 : decode cX4_init 12 = .ok (.newarray .int, 2) := by decide +kernel
theorem dX4_init_14 : decode cX4_init 14 = .ok (.putfield 15, 3) := by decide +kernel
theorem dX4_init_17 : decode cX4_init 17 = .ok (.aload_n 0, 1) := by decide +kernel
theorem dX4_init_18 : decode cX4_init 18 = .ok (.bipush 10, 2) := by decide +kernel
theorem dX4_init_20 : decode cX4_init 20 = .ok (.newarray .int, 2) := by decide +kernel
theorem dX4_init_22 : decode cX4_init 22 = .ok (.putfield 19, 3) := by decide +kernel
theorem dX4_init_25 : decode cX4_init 25 = .ok (.aload_n 0, 1) := by decide +kernel
theorem dX4_init_26 : decode cX4_init 26 = .ok (.bipush 10, 2) := by decide +kernel
theorem dX4_init_28 : decode cX4_init 28 = .ok (.newarray .int, 2) := by decide +kernel
theorem dX4_init_30 : decode cX4_init 30 = .ok (.putfield 22, 3) := by decide +kernel
theorem dX4_init_33 : decode cX4_init 33 = .ok (.aload_n 0, 1) := by decide +kernel
theorem dX4_init_34 : decode cX4_init 34 = .ok (.bipush 10, 2) := by decide +kernel
theorem dX4_init_36 : decode cX4_init 36 = .ok (.newarray .int, 2) := by decide +kernel
theorem dX4_init_38 : decode cX4_init 38 = .ok (.putfield 25, 3) := by decide +kernel
theorem dX4_init_41 : decode cX4_init 41 = .ok (.aload_n 0, 1) := by decide +kernel
theorem dX4_init_42 : decode cX4_init 42 = .ok (.iconst 0, 1) := by decide +kernel
theorem dX4_init_43 : decode cX4_init 43 = .ok (.putfield 28, 3) := by decide +kernel
theorem dX4_init_46 : decode cX4_init 46 = .ok (.aload_n 0, 1) := by decide +kernel
theorem dX4_init_47 : decode cX4_init 47 = .ok (.bipush 10, 2) := by decide +kernel
theorem dX4_init_49 : decode cX4_init 49 = .ok (.newarray .int, 2) := by decide +kernel
theorem dX4_init_51 : decode cX4_init 51 = .ok (.putfield 31, 3) := by decide +kernel
theorem dX4_init_54 : decode cX4_init 54 = .ok (.aload_n 0, 1) := by decide +kernel
theorem dX4_init_55 : decode cX4_init 55 = .ok (.bipush 10, 2) := by decide +kernel
theorem dX4_init_57 : decode cX4_init 57 = .ok (.newarray .int, 2) := by decide +kernel
theorem dX4_init_59 : decode cX4_init 59 = .ok (.putfield 34, 3) := by decide +kernel
theorem dX4_init_62 : decode cX4_init 62 = .ok (.aload_n 0, 1) := by decide +kernel
theorem dX4_init_63 : decode cX4_init 63 = .ok (.iconst 0, 1) := by decide +kernel
theorem dX4_init_64 : decode cX4_init 64 = .ok (.putfield 37, 3) := by decide +kernel
theorem dX4_init_67 : decode cX4_init 67 = .ok (.aload_n 0, 1) := by decide +kernel
theorem dX4_init_68 : decode cX4_init 68 = .ok (.iconst 4, 1) := by decide +kernel
theorem dX4_init_69 : decode cX4_init 69 = .ok (.newarray .int, 2) := by decide +kernel
theorem dX4_init_71 : decode cX4_init 71 = .ok (.putfield 40, 3) := by decide +kernel
theorem dX4_init_74 : decode cX4_init 74 = .ok (.aload_n 0, 1) := by decide +kernel
theorem dX4_init_75 : decode cX4_init 75 = .ok (.iconst 4, 1) := by decide +kernel
theorem dX4_init_76 : decode cX4_init 76 = .ok (.newarray .int, 2) := by decide +kernel
theorem dX4_init_78 : decode cX4_init 78 = .ok (.putfield 43, 3) := by decide +kernel
theorem dX4_init_81 : decode cX4_init 81 = .ok (.aload_n 0, 1) := by decide +kernel
theorem dX4_init_82 : decode cX4_init 82 = .ok (.bipush 10, 2) := by decide +kernel
theorem dX4_init_84 : decode cX4_init 84 = .ok (.newarray .int, 2) := by decide +kernel
theorem dX4_init_86 : decode cX4_init 86 = .ok (.putfield 46, 3) := by decide +kernel
theorem dX4_init_89 : decode cX4_init 89 = .ok (.return_, 1) := by decide +kernel
theorem dX4_isAgent_0 : decode cX4_isAgent 0 = .ok (.aload_n 0, 1) := by decide +kernel
theorem dX4_isAgent_1 : decode cX4_isAgent 1 = .ok (.iload_n 1, 1) := by decide +kernel
theorem dX4_isAgent_2 : decode cX4_isAgent 2 = .ok (.invokevirtual 61, 3) := by decide +kernel
theorem dX4_isAgent_5 : decode cX4_isAgent 5 = .ok (.ifCond .eq 16, 3) := by decide +kernel
theorem dX4_isAgent_8 : decode cX4_isAgent 8 = .ok (.aload_n 0, 1) := by decide +kernel
theorem dX4_isAgent_9 : decode cX4_isAgent 9 = .ok (.getfield 15, 3) := by decide +kernel
theorem dX4_isAgent_12 : decode cX4_isAgent 12 = .ok (.iload_n 1, 1) := by decide +kernel
theorem dX4_isAgent_13 : decode cX4_isAgent 13 = .ok (.iaload, 1) := by decide +kernel
theorem dX4_isAgent_14 : decode cX4_isAgent 14 = .ok (.ifCond .ne 7, 3) := by decide +kernel
theorem dX4_isAgent_17 : decode cX4_isAgent 17 = .ok (.iconst 1, 1) := by decide +kernel
theorem dX4_isAgent_18 : decode cX4_isAgent 18 = .ok (.goto 4, 3) := by decide +kernel
theorem dX4_isAgent_21 : decode cX4_isAgent 21 = .ok (.iconst 0, 1) := by decide +kernel
theorem dX4_isAgent_22 : decode cX4_isAgent 22 = .ok (.ireturn, 1) := by decide +kernel
theorem dX4_isAgentWith_0 : decode cX4_isAgentWith 0 = .ok (.aload_n 0, 1) := by decide +kernel
theorem dX4_isAgentWith_1 : decode cX4_isAgentWith 1 = .ok (.iload_n 1, 1) := by decide +kernel
theorem dX4_isAgentWith_2 : decode cX4_isAgentWith 2 = .ok (.invokevirtual 65, 3) := by decide +kernel
theorem dX4_isAgentWith_5 : decode cX4_isAgentWith 5 = .ok (.ifCond .eq 18, 3) := by decide +kernel
theorem dX4_isAgentWith_8 : decode cX4_isAgentWith 8 = .ok (.aload_n 0, 1) := by decide +kernel
theorem dX4_isAgentWith_9 : decode cX4_isAgentWith 9 = .ok (.getfield 19, 3) := by decide +kernel
theorem dX4_isAgentWith_12 : decode cX4_isAgentWith 12 = .ok (.iload_n 1, 1) := by decide +kernel
theorem dX4_isAgentWith_13 : decode cX4_isAgentWith 13 = .ok (.iaload, 1) := by decide +kernel
theorem dX4_isAgentWith_14 : decode cX4_isAgentWith 14 = .ok (.iload_n 2, 1) := by decide +kernel
theorem dX4_isAgentWith_15 : decode cX4_isAgentWith 15 = .ok (.iand, 1) := by decide +kernel
theorem dX4_isAgentWith_16 : decode cX4_isAgentWith 16 = .ok (.ifCond .eq 7, 3) := by decide +kernel
theorem dX4_isAgentWith_19 : decode cX4_isAgentWith 19 = .ok (.iconst 1, 1) := by decide +kernel
theorem dX4_isAgentWith_20 : decode cX4_isAgentWith 20 = .ok (.goto 4, 3) := by decide +kernel
theorem dX4_isAgentWith_23 : decode cX4_isAgentWith 23 = .ok (.iconst 0, 1) := by decide +kernel
theorem dX4_isAgentWith_24 : decode cX4_isAgentWith 24 = .ok (.ireturn, 1) := by decide +kernel
theorem dX4_isOfKind_0 : decode cX4_isOfKind 0 = .ok (.aload_n 0, 1) := by decide +kernel
theorem dX4_isOfKind_1 : decode cX4_isOfKind 1 = .ok (.iload_n 1, 1) := by decide +kernel
theorem dX4_isOfKind_2 : decode cX4_isOfKind 2 = .ok (.invokevirtual 61, 3) := by decide +kernel
theorem dX4_isOfKind_5 : decode cX4_isOfKind 5 = .ok (.ifCond .eq 17, 3) := by decide +kernel
theorem dX4_isOfKind_8 : decode cX4_isOfKind 8 = .ok (.aload_n 0, 1) := by decide +kernel
theorem dX4_isOfKind_9 : decode cX4_isOfKind 9 = .ok (.getfield 15, 3) := by decide +kernel
theorem dX4_isOfKind_12 : decode cX4_isOfKind 12 = .ok (.iload_n 1, 1) := by decide +kernel
theorem dX4_isOfKind_13 : decode cX4_isOfKind 13 = .ok (.iaload, 1) := by decide +kernel
theorem dX4_isOfKind_14 : decode cX4_isOfKind 14 = .ok (.iload_n 2, 1) := by decide +kernel
theorem dX4_isOfKind_15 : decode cX4_isOfKind 15 = .ok (.if_icmp .ne 7, 3) := by decide +kernel
theorem dX4_isOfKind_18 : decode cX4_isOfKind 18 = .ok (.iconst 1, 1) := by decide +kernel
theorem dX4_isOfKind_19 : decode cX4_isOfKind 19 = .ok (.goto 4, 3) := by decide +kernel
theorem dX4_isOfKind_22 : decode cX4_isOfKind 22 = .ok (.iconst 0, 1) := by decide +kernel
theorem dX4_isOfKind_23 : decode cX4_isOfKind 23 = .ok (.ireturn, 1) := by decide +kernel
theorem dX4_listReference_0 : decode cX4_listReference 0 = .ok (.aload_n 0, 1) := by decide +kernel
theorem dX4_listReference_1 : decode cX4_listReference 1 = .ok (.getfield 28, 3) := by decide +kernel
theorem dX4_listReference_4 : decode cX4_listReference 4 = .ok (.bipush 10, 2) := by decide +kernel
theorem dX4_listReference_6 : decode cX4_listReference 6 = .ok (.if_icmp .lt 4, 3) := by decide +kernel
theorem dX4_listReference_9 : decode cX4_listReference 9 = .ok (.return_, 1) := by decide +kernel
theorem dX4_listReference_10 : decode cX4_listReference 10 = .ok (.aload_n 0, 1) := by decide +kernel
theorem dX4_listReference_11 : decode cX4_listReference 11 = .ok (.getfield 31, 3) := by decide +kernel
theorem dX4_listReference_14 : decode cX4_listReference 14 = .ok (.aload_n 0, 1) := by decide +kernel
theorem dX4_listReference_15 : decode cX4_listReference 15 = .ok (.getfield 28, 3) := by decide +kernel
theorem dX4_listReference_18 : decode cX4_listReference 18 = .ok (.iload_n 1, 1) := by decide +kernel
theorem dX4_listReference_19 : decode cX4_listReference 19 = .ok (.iastore, 1) := by decide +kernel
theorem dX4_listReference_20 : decode cX4_listReference 20 = .ok (.aload_n 0, 1) := by decide +kernel
theorem dX4_listReference_21 : decode cX4_listReference 21 = .ok (.getfield 34, 3) := by decide +kernel
theorem dX4_listReference_24 : decode cX4_listReference 24 = .ok (.aload_n 0, 1) := by decide +kernel
theorem dX4_listReference_25 : decode cX4_listReference 25 = .ok (.getfield 28, 3) := by decide +kernel
theorem dX4_listReference_28 : decode cX4_listReference 28 = .ok (.iload_n 2, 1) := by decide +kernel
theorem dX4_listReference_29 : decode cX4_listReference 29 = .ok (.iastore, 1) := by decide +kernel
theorem dX4_listReference_30 : decode cX4_listReference 30 = .ok (.aload_n 0, 1) := by decide +kernel
theorem dX4_listReference_31 : decode cX4_listReference 31 = .ok (.dup, 1) := by decide +kernel
theorem dX4_listReference_32 : decode cX4_listReference 32 = .ok (.getfield 28, 3) := by decide +kernel
theorem dX4_listReference_35 : decode cX4_listReference 35 = .ok (.iconst 1, 1) := by decide +kernel
theorem dX4_listReference_36 : decode cX4_listReference 36 = .ok (.iadd, 1) := by decide +kernel
theorem dX4_listReference_37 : decode cX4_listReference 37 = .ok (.putfield 28, 3) := by decide +kernel
theorem dX4_listReference_40 : decode cX4_listReference 40 = .ok (.return_, 1) := by decide +kernel
theorem dX4_listsReference_0 : decode cX4_listsReference 0 = .ok (.iconst 0, 1) := by decide +kernel
theorem dX4_listsReference_1 : decode cX4_listsReference 1 = .ok (.istore_n 3, 1) := by decide +kernel
theorem dX4_listsReference_2 : decode cX4_listsReference 2 = .ok (.iload_n 3, 1) := by decide +kernel
theorem dX4_listsReference_3 : decode cX4_listsReference 3 = .ok (.aload_n 0, 1) := by decide +kernel
theorem dX4_listsReference_4 : decode cX4_listsReference 4 = .ok (.getfield 28, 3) := by decide +kernel
theorem dX4_listsReference_7 : decode cX4_listsReference 7 = .ok (.if_icmp .ge 31, 3) := by decide +kernel
theorem dX4_listsReference_10 : decode cX4_listsReference 10 = .ok (.aload_n 0, 1) := by decide +kernel
theorem dX4_listsReference_11 : decode cX4_listsReference 11 = .ok (.getfield 31, 3) := by decide +kernel
theorem dX4_listsReference_14 : decode cX4_listsReference 14 = .ok (.iload_n 3, 1) := by decide +kernel
theorem dX4_listsReference_15 : decode cX4_listsReference 15 = .ok (.iaload, 1) := by decide +kernel
theorem dX4_listsReference_16 : decode cX4_listsReference 16 = .ok (.iload_n 1, 1) := by decide +kernel
theorem dX4_listsReference_17 : decode cX4_listsReference 17 = .ok (.if_icmp .ne 15, 3) := by decide +kernel
theorem dX4_listsReference_20 : decode cX4_listsReference 20 = .ok (.aload_n 0, 1) := by decide +kernel
end
section
theorem dX4_listsReference_21 : decode cX4_listsReference 21 = .ok (.getfield 34, 3) := by decide +kernel
theorem dX4_listsReference_24 : decode cX4_listsReference 24 = .ok (.iload_n 3, 1) := by decide +kernel
theorem dX4_listsReference_25 : decode cX4_listsReference 25 = .ok (.iaload, 1) := by decide +kernel
theorem dX4_listsReference_26 : decode cX4_listsReference 26 = .ok (.iload_n 2, 1) := by decide +kernel
theorem dX4_listsReference_27 : decode cX4_listsReference 27 = .ok (.if_icmp .ne 5, 3) := by decide +kernel
theorem dX4_listsReference_30 : decode cX4_listsReference 30 = .ok (.iconst 1, 1) := by decide +kernel
theorem dX4_listsReference_31 : decode cX4_listsReference 31 = .ok (.ireturn, 1) := by decide +kernel
theorem dX4_listsReference_32 : decode cX4_listsReference 32 = .ok (.iinc 3 1, 3) := by decide +kernel
theorem dX4_listsReference_35 : decode cX4_listsReference 35 = .ok (.goto (-33), 3) := by decide +kernel
theorem dX4_listsReference_38 : decode cX4_listsReference 38 = .ok (.iconst 0, 1) := by decide +kernel
theorem dX4_listsReference_39 : decode cX4_listsReference 39 = .ok (.ireturn, 1) := by decide +kernel
theorem dX4_reset_0 : decode cX4_reset 0 = .ok (.aload_n 0, 1) := by decide +kernel
theorem dX4_reset_1 : decode cX4_reset 1 = .ok (.iconst 0, 1) := by decide +kernel
theorem dX4_reset_2 : decode cX4_reset 2 = .ok (.putfield 9, 3) := by decide +kernel
theorem dX4_reset_5 : decode cX4_reset 5 = .ok (.aload_n 0, 1) := by decide +kernel
theorem dX4_reset_6 : decode cX4_reset 6 = .ok (.iconst 0, 1) := by decide +kernel
theorem dX4_reset_7 : decode cX4_reset 7 = .ok (.putfield 28, 3) := by decide +kernel
theorem dX4_reset_10 : decode cX4_reset 10 = .ok (.aload_n 0, 1) := by decide +kernel
theorem dX4_reset_11 : decode cX4_reset 11 = .ok (.iconst 0, 1) := by decide +kernel
theorem dX4_reset_12 : decode cX4_reset 12 = .ok (.putfield 37, 3) := by decide +kernel
theorem dX4_reset_15 : decode cX4_reset 15 = .ok (.aload_n 0, 1) := by decide +kernel
theorem dX4_reset_16 : decode cX4_reset 16 = .ok (.getfield 46, 3) := by decide +kernel
theorem dX4_reset_19 : decode cX4_reset 19 = .ok (.iconst 0, 1) := by decide +kernel
theorem dX4_reset_20 : decode cX4_reset 20 = .ok (.invokestatic 49, 3) := by decide +kernel
theorem dX4_reset_23 : decode cX4_reset 23 = .ok (.return_, 1) := by decide +kernel
theorem dX4_runHolds_0 : decode cX4_runHolds 0 = .ok (.aload_n 0, 1) := by decide +kernel
theorem dX4_runHolds_1 : decode cX4_runHolds 1 = .ok (.getfield 46, 3) := by decide +kernel
theorem dX4_runHolds_4 : decode cX4_runHolds 4 = .ok (.iload_n 1, 1) := by decide +kernel
theorem dX4_runHolds_5 : decode cX4_runHolds 5 = .ok (.iaload, 1) := by decide +kernel
theorem dX4_runHolds_6 : decode cX4_runHolds 6 = .ok (.iload_n 2, 1) := by decide +kernel
theorem dX4_runHolds_7 : decode cX4_runHolds 7 = .ok (.invokestatic 72, 3) := by decide +kernel
theorem dX4_runHolds_10 : decode cX4_runHolds 10 = .ok (.ireturn, 1) := by decide +kernel
theorem dX4_startRun_0 : decode cX4_startRun 0 = .ok (.aload_n 0, 1) := by decide +kernel
theorem dX4_startRun_1 : decode cX4_startRun 1 = .ok (.aload_n 0, 1) := by decide +kernel
theorem dX4_startRun_2 : decode cX4_startRun 2 = .ok (.getfield 46, 3) := by decide +kernel
theorem dX4_startRun_5 : decode cX4_startRun 5 = .ok (.iconst 0, 1) := by decide +kernel
theorem dX4_startRun_6 : decode cX4_startRun 6 = .ok (.invokevirtual 79, 3) := by decide +kernel
theorem dX4_startRun_9 : decode cX4_startRun 9 = .ok (.return_, 1) := by decide +kernel
theorem dX4_unlistReference_0 : decode cX4_unlistReference 0 = .ok (.iload_n 1, 1) := by decide +kernel
theorem dX4_unlistReference_1 : decode cX4_unlistReference 1 = .ok (.istore_n 2, 1) := by decide +kernel
theorem dX4_unlistReference_2 : decode cX4_unlistReference 2 = .ok (.iload_n 2, 1) := by decide +kernel
theorem dX4_unlistReference_3 : decode cX4_unlistReference 3 = .ok (.iconst 1, 1) := by decide +kernel
theorem dX4_unlistReference_4 : decode cX4_unlistReference 4 = .ok (.iadd, 1) := by decide +kernel
theorem dX4_unlistReference_5 : decode cX4_unlistReference 5 = .ok (.aload_n 0, 1) := by decide +kernel
theorem dX4_unlistReference_6 : decode cX4_unlistReference 6 = .ok (.getfield 28, 3) := by decide +kernel
theorem dX4_unlistReference_9 : decode cX4_unlistReference 9 = .ok (.if_icmp .ge 37, 3) := by decide +kernel
theorem dX4_unlistReference_12 : decode cX4_unlistReference 12 = .ok (.aload_n 0, 1) := by decide +kernel
theorem dX4_unlistReference_13 : decode cX4_unlistReference 13 = .ok (.getfield 31, 3) := by decide +kernel
theorem dX4_unlistReference_16 : decode cX4_unlistReference 16 = .ok (.iload_n 2, 1) := by decide +kernel
theorem dX4_unlistReference_17 : decode cX4_unlistReference 17 = .ok (.aload_n 0, 1) := by decide +kernel
theorem dX4_unlistReference_18 : decode cX4_unlistReference 18 = .ok (.getfield 31, 3) := by decide +kernel
theorem dX4_unlistReference_21 : decode cX4_unlistReference 21 = .ok (.iload_n 2, 1) := by decide +kernel
theorem dX4_unlistReference_22 : decode cX4_unlistReference 22 = .ok (.iconst 1, 1) := by decide +kernel
theorem dX4_unlistReference_23 : decode cX4_unlistReference 23 = .ok (.iadd, 1) := by decide +kernel
theorem dX4_unlistReference_24 : decode cX4_unlistReference 24 = .ok (.iaload, 1) := by decide +kernel
theorem dX4_unlistReference_25 : decode cX4_unlistReference 25 = .ok (.iastore, 1) := by decide +kernel
theorem dX4_unlistReference_26 : decode cX4_unlistReference 26 = .ok (.aload_n 0, 1) := by decide +kernel
theorem dX4_unlistReference_27 : decode cX4_unlistReference 27 = .ok (.getfield 34, 3) := by decide +kernel
theorem dX4_unlistReference_30 : decode cX4_unlistReference 30 = .ok (.iload_n 2, 1) := by decide +kernel
theorem dX4_unlistReference_31 : decode cX4_unlistReference 31 = .ok (.aload_n 0, 1) := by decide +kernel
theorem dX4_unlistReference_32 : decode cX4_unlistReference 32 = .ok (.getfield 34, 3) := by decide +kernel
theorem dX4_unlistReference_35 : decode cX4_unlistReference 35 = .ok (.iload_n 2, 1) := by decide +kernel
theorem dX4_unlistReference_36 : decode cX4_unlistReference 36 = .ok (.iconst 1, 1) := by decide +kernel
theorem dX4_unlistReference_37 : decode cX4_unlistReference 37 = .ok (.iadd, 1) := by decide +kernel
theorem dX4_unlistReference_38 : decode cX4_unlistReference 38 = .ok (.iaload, 1) := by decide +kernel
theorem dX4_unlistReference_39 : decode cX4_unlistReference 39 = .ok (.iastore, 1) := by decide +kernel
theorem dX4_unlistReference_40 : decode cX4_unlistReference 40 = .ok (.iinc 2 1, 3) := by decide +kernel
theorem dX4_unlistReference_43 : decode cX4_unlistReference 43 = .ok (.goto (-41), 3) := by decide +kernel
theorem dX4_unlistReference_46 : decode cX4_unlistReference 46 = .ok (.aload_n 0, 1) := by decide +kernel
theorem dX4_unlistReference_47 : decode cX4_unlistReference 47 = .ok (.dup, 1) := by decide +kernel
theorem dX4_unlistReference_48 : decode cX4_unlistReference 48 = .ok (.getfield 28, 3) := by decide +kernel
theorem dX4_unlistReference_51 : decode cX4_unlistReference 51 = .ok (.iconst 1, 1) := by decide +kernel
theorem dX4_unlistReference_52 : decode cX4_unlistReference 52 = .ok (.isub, 1) := by decide +kernel
theorem dX4_unlistReference_53 : decode cX4_unlistReference 53 = .ok (.putfield 28, 3) := by decide +kernel
theorem dX4_unlistReference_56 : decode cX4_unlistReference 56 = .ok (.return_, 1) := by decide +kernel
theorem dX5_accepts_0 : decode cX5_accepts 0 = .ok (.iload_n 2, 1) := by decide +kernel
theorem dX5_accepts_1 : decode cX5_accepts 1 = .ok (.tableswitch 212 0 4 #[35, 67, 112, 143, 169], 35) := by decide +kernel
theorem dX5_accepts_36 : decode cX5_accepts 36 = .ok (.iload_n 3, 1) := by decide +kernel
theorem dX5_accepts_37 : decode cX5_accepts 37 = .ok (.ifCond .ne 18, 3) := by decide +kernel
theorem dX5_accepts_40 : decode cX5_accepts 40 = .ok (.iload 4, 2) := by decide +kernel
theorem dX5_accepts_42 : decode cX5_accepts 42 = .ok (.bipush 16, 2) := by decide +kernel
theorem dX5_accepts_44 : decode cX5_accepts 44 = .ok (.if_icmp .ge 7, 3) := by decide +kernel
theorem dX5_accepts_47 : decode cX5_accepts 47 = .ok (.iconst 1, 1) := by decide +kernel
theorem dX5_accepts_48 : decode cX5_accepts 48 = .ok (.goto 19, 3) := by decide +kernel
theorem dX5_accepts_51 : decode cX5_accepts 51 = .ok (.iconst 0, 1) := by decide +kernel
theorem dX5_accepts_52 : decode cX5_accepts 52 = .ok (.goto 15, 3) := by decide +kernel
theorem dX5_accepts_55 : decode cX5_accepts 55 = .ok (.iload 4, 2) := by decide +kernel
theorem dX5_accepts_57 : decode cX5_accepts 57 = .ok (.bipush 6, 2) := by decide +kernel
theorem dX5_accepts_59 : decode cX5_accepts 59 = .ok (.if_icmp .ge 7, 3) := by decide +kernel
theorem dX5_accepts_62 : decode cX5_accepts 62 = .ok (.iconst 1, 1) := by decide +kernel
theorem dX5_accepts_63 : decode cX5_accepts 63 = .ok (.goto 4, 3) := by decide +kernel
theorem dX5_accepts_66 : decode cX5_accepts 66 = .ok (.iconst 0, 1) := by decide +kernel
theorem dX5_accepts_67 : decode cX5_accepts 67 = .ok (.ireturn, 1) := by decide +kernel
theorem dX5_accepts_68 : decode cX5_accepts 68 = .ok (.iload_n 3, 1) := by decide +kernel
theorem dX5_accepts_69 : decode cX5_accepts 69 = .ok (.ifCond .ne 17, 3) := by decide +kernel
theorem dX5_accepts_72 : decode cX5_accepts 72 = .ok (.iload 4, 2) := by decide +kernel
theorem dX5_accepts_74 : decode cX5_accepts 74 = .ok (.iconst 4, 1) := by decide +kernel
theorem dX5_accepts_75 : decode cX5_accepts 75 = .ok (.if_icmp .ge 7, 3) := by decide +kernel
theorem dX5_accepts_78 : decode cX5_accepts 78 = .ok (.iconst 1, 1) := by decide +kernel
theorem dX5_accepts_79 : decode cX5_accepts 79 = .ok (.goto 33, 3) := by decide +kernel
theorem dX5_accepts_82 : decode cX5_accepts 82 = .ok (.iconst 0, 1) := by decide +kernel
theorem dX5_accepts_83 : decode cX5_accepts 83 = .ok (.goto 29, 3) := by decide +kernel
theorem dX5_accepts_86 : decode cX5_accepts 86 = .ok (.iload_n 3, 1) := by decide +kernel
theorem dX5_accepts_87 : decode cX5_accepts 87 = .ok (.iconst 1, 1) := by decide +kernel
theorem dX5_accepts_88 : decode cX5_accepts 88 = .ok (.if_icmp .ne 12, 3) := by decide +kernel
theorem dX5_accepts_91 : decode cX5_accepts 91 = .ok (.aload_n 1, 1) := by decide +kernel
theorem dX5_accepts_92 : decode cX5_accepts 92 = .ok (.iload 4, 2) := by decide +kernel
theorem dX5_accepts_94 : decode cX5_accepts 94 = .ok (.invokevirtual 68, 3) := by decide +kernel
theorem dX5_accepts_97 : decode cX5_accepts 97 = .ok (.goto 15, 3) := by decide +kernel
theorem dX5_accepts_100 : decode cX5_accepts 100 = .ok (.iload 4, 2) := by decide +kernel
theorem dX5_accepts_102 : decode cX5_accepts 102 = .ok (.bipush 6, 2) := by decide +kernel
theorem dX5_accepts_104 : decode cX5_accepts 104 = .ok (.if_icmp .ge 7, 3) := by decide +kernel
theorem dX5_accepts_107 : decode cX5_accepts 107 = .ok (.iconst 1, 1) := by decide +kernel
theorem dX5_accepts_108 : decode cX5_accepts 108 = .ok (.goto 4, 3) := by decide +kernel
theorem dX5_accepts_111 : decode cX5_accepts 111 = .ok (.iconst 0, 1) := by decide +kernel
theorem dX5_accepts_112 : decode cX5_accepts 112 = .ok (.ireturn, 1) := by decide +kernel
theorem dX5_accepts_113 : decode cX5_accepts 113 = .ok (.iload_n 3, 1) := by decide +kernel
theorem dX5_accepts_114 : decode cX5_accepts 114 = .ok (.ifCond .ne 17, 3) := by decide +kernel
theorem dX5_accepts_117 : decode cX5_accepts 117 = .ok (.iload 4, 2) := by decide +kernel
theorem dX5_accepts_119 : decode cX5_accepts 119 = .ok (.iconst 4, 1) := by decide +kernel
theorem dX5_accepts_120 : decode cX5_accepts 120 = .ok (.if_icmp .ge 7, 3) := by decide +kernel
theorem dX5_accepts_123 : decode cX5_accepts 123 = .ok (.iconst 1, 1) := by decide +kernel
theorem dX5_accepts_124 : decode cX5_accepts 124 = .ok (.goto 19, 3) := by decide +kernel
theorem dX5_accepts_127 : decode cX5_accepts 127 = .ok (.iconst 0, 1) := by decide +kernel
theorem dX5_accepts_128 : decode cX5_accepts 128 = .ok (.goto 15, 3) := by decide +kernel
theorem dX5_accepts_131 : decode cX5_accepts 131 = .ok (.iload 4, 2) := by decide +kernel
theorem dX5_accepts_133 : decode cX5_accepts 133 = .ok (.bipush 6, 2) := by decide +kernel
theorem dX5_accepts_135 : decode cX5_accepts 135 = .ok (.if_icmp .ge 7, 3) := by decide +kernel
theorem dX5_accepts_138 : decode cX5_accepts 138 = .ok (.iconst 1, 1) := by decide +kernel
theorem dX5_accepts_139 : decode cX5_accepts 139 = .ok (.goto 4, 3) := by decide +kernel
theorem dX5_accepts_142 : decode cX5_accepts 142 = .ok (.iconst 0, 1) := by decide +kernel
theorem dX5_accepts_143 : decode cX5_accepts 143 = .ok (.ireturn, 1) := by decide +kernel
theorem dX5_accepts_144 : decode cX5_accepts 144 = .ok (.iload_n 3, 1) := by decide +kernel
theorem dX5_accepts_145 : decode cX5_accepts 145 = .ok (.ifCond .ne 12, 3) := by decide +kernel
theorem dX5_accepts_148 : decode cX5_accepts 148 = .ok (.aload_n 1, 1) := by decide +kernel
theorem dX5_accepts_149 : decode cX5_accepts 149 = .ok (.iload 4, 2) := by decide +kernel
theorem dX5_accepts_151 : decode cX5_accepts 151 = .ok (.invokevirtual 72, 3) := by decide +kernel
theorem dX5_accepts_154 : decode cX5_accepts 154 = .ok (.goto 15, 3) := by decide +kernel
theorem dX5_accepts_157 : decode cX5_accepts 157 = .ok (.iload 4, 2) := by decide +kernel
theorem dX5_accepts_159 : decode cX5_accepts 159 = .ok (.bipush 6, 2) := by decide +kernel
theorem dX5_accepts_161 : decode cX5_accepts 161 = .ok (.if_icmp .ge 7, 3) := by decide +kernel
theorem dX5_accepts_164 : decode cX5_accepts 164 = .ok (.iconst 1, 1) := by decide +kernel
theorem dX5_accepts_165 : decode cX5_accepts 165 = .ok (.goto 4, 3) := by decide +kernel
theorem dX5_accepts_168 : decode cX5_accepts 168 = .ok (.iconst 0, 1) := by decide +kernel
theorem dX5_accepts_169 : decode cX5_accepts 169 = .ok (.ireturn, 1) := by decide +kernel
theorem dX5_accepts_170 : decode cX5_accepts 170 = .ok (.iload_n 3, 1) := by decide +kernel
theorem dX5_accepts_171 : decode cX5_accepts 171 = .ok (.ifCond .ne 12, 3) := by decide +kernel
theorem dX5_accepts_174 : decode cX5_accepts 174 = .ok (.aload_n 1, 1) := by decide +kernel
theorem dX5_accepts_175 : decode cX5_accepts 175 = .ok (.iload 4, 2) := by decide +kernel
theorem dX5_accepts_177 : decode cX5_accepts 177 = .ok (.invokevirtual 75, 3) := by decide +kernel
theorem dX5_accepts_180 : decode cX5_accepts 180 = .ok (.goto 32, 3) := by decide +kernel
theorem dX5_accepts_183 : decode cX5_accepts 183 = .ok (.aload_n 1, 1) := by decide +kernel
theorem dX5_accepts_184 : decode cX5_accepts 184 = .ok (.iload 4, 2) := by decide +kernel
theorem dX5_accepts_186 : decode cX5_accepts 186 = .ok (.invokevirtual 68, 3) := by decide +kernel
theorem dX5_accepts_189 : decode cX5_accepts 189 = .ok (.ifCond .eq 22, 3) := by decide +kernel
theorem dX5_accepts_192 : decode cX5_accepts 192 = .ok (.aload_n 1, 1) := by decide +kernel
theorem dX5_accepts_193 : decode cX5_accepts 193 = .ok (.aload_n 0, 1) := by decide +kernel
theorem dX5_accepts_194 : decode cX5_accepts 194 = .ok (.getfield 28, 3) := by decide +kernel
theorem dX5_accepts_197 : decode cX5_accepts 197 = .ok (.iconst 0, 1) := by decide +kernel
theorem dX5_accepts_198 : decode cX5_accepts 198 = .ok (.iaload, 1) := by decide +kernel
theorem dX5_accepts_199 : decode cX5_accepts 199 = .ok (.iload 4, 2) := by decide +kernel
theorem dX5_accepts_201 : decode cX5_accepts 201 = .ok (.invokevirtual 78, 3) := by decide +kernel
theorem dX5_accepts_204 : decode cX5_accepts 204 = .ok (.ifCond .ne 7, 3) := by decide +kernel
theorem dX5_accepts_207 : decode cX5_accepts 207 = .ok (.iconst 1, 1) := by decide +kernel
theorem dX5_accepts_208 : decode cX5_accepts 208 = .ok (.goto 4, 3) := by decide +kernel
theorem dX5_accepts_211 : decode cX5_accepts 211 = .ok (.iconst 0, 1) := by decide +kernel
theorem dX5_accepts_212 : decode cX5_accepts 212 = .ok (.ireturn, 1) := by decide +kernel
theorem dX5_accepts_213 : decode cX5_accepts 213 = .ok (.iconst 0, 1) := by decide +kernel
theorem dX5_accepts_214 : decode cX5_accepts 214 = .ok (.ireturn, 1) := by decide +kernel
theorem dX5_advance_0 : decode cX5_advance 0 = .ok (.aload_n 0, 1) := by decide +kernel
theorem dX5_advance_1 : decode cX5_advance 1 = .ok (.aload_n 0, 1) := by decide +kernel
theorem dX5_advance_2 : decode cX5_advance 2 = .ok (.getfield 25, 3) := by decide +kernel
theorem dX5_advance_5 : decode cX5_advance 5 = .ok (.putfield 22, 3) := by decide +kernel
theorem dX5_advance_8 : decode cX5_advance 8 = .ok (.aload_n 0, 1) := by decide +kernel
theorem dX5_advance_9 : decode cX5_advance 9 = .ok (.getfield 22, 3) := by decide +kernel
theorem dX5_advance_12 : decode cX5_advance 12 = .ok (.aload_n 0, 1) := by decide +kernel
theorem dX5_advance_13 : decode cX5_advance 13 = .ok (.getfield 15, 3) := by decide +kernel
theorem dX5_advance_16 : decode cX5_advance 16 = .ok (.if_icmp .ge 30, 3) := by decide +kernel
theorem dX5_advance_19 : decode cX5_advance 19 = .ok (.aload_n 0, 1) := by decide +kernel
theorem dX5_advance_20 : decode cX5_advance 20 = .ok (.getfield 9, 3) := by decide +kernel
theorem dX5_advance_23 : decode cX5_advance 23 = .ok (.aload_n 0, 1) := by decide +kernel
theorem dX5_advance_24 : decode cX5_advance 24 = .ok (.getfield 22, 3) := by decide +kernel
theorem dX5_advance_27 : decode cX5_advance 27 = .ok (.iaload, 1) := by decide +kernel
theorem dX5_advance_28 : decode cX5_advance 28 = .ok (.bipush 32, 2) := by decide +kernel
theorem dX5_advance_30 : decode cX5_advance 30 = .ok (.if_icmp .ne 16, 3) := by decide +kernel
theorem dX5_advance_33 : decode cX5_advance 33 = .ok (.aload_n 0, 1) := by decide +kernel
theorem dX5_advance_34 : decode cX5_advance 34 = .ok (.dup, 1) := by decide +kernel
theorem dX5_advance_35 : decode cX5_advance 35 = .ok (.getfield 22, 3) := by decide +kernel
theorem dX5_advance_38 : decode cX5_advance 38 = .ok (.iconst 1, 1) := by decide +kernel
theorem dX5_advance_39 : decode cX5_advance 39 = .ok (.iadd, 1) := by decide +kernel
theorem dX5_advance_40 : decode cX5_advance 40 = .ok (.putfield 22, 3) := by decide +kernel
theorem dX5_advance_43 : decode cX5_advance 43 = .ok (.goto (-35), 3) := by decide +kernel
theorem dX5_advance_46 : decode cX5_advance 46 = .ok (.aload_n 0, 1) := by decide +kernel
theorem dX5_advance_47 : decode cX5_advance 47 = .ok (.aload_n 0, 1) := by decide +kernel
theorem dX5_advance_48 : decode cX5_advance 48 = .ok (.getfield 22, 3) := by decide +kernel
theorem dX5_advance_51 : decode cX5_advance 51 = .ok (.putfield 25, 3) := by decide +kernel
theorem dX5_advance_54 : decode cX5_advance 54 = .ok (.aload_n 0, 1) := by decide +kernel
theorem dX5_advance_55 : decode cX5_advance 55 = .ok (.getfield 22, 3) := by decide +kernel
theorem dX5_advance_58 : decode cX5_advance 58 = .ok (.aload_n 0, 1) := by decide +kernel
theorem dX5_advance_59 : decode cX5_advance 59 = .ok (.getfield 15, 3) := by decide +kernel
theorem dX5_advance_62 : decode cX5_advance 62 = .ok (.if_icmp .lt 9, 3) := by decide +kernel
theorem dX5_advance_65 : decode cX5_advance 65 = .ok (.aload_n 0, 1) := by decide +kernel
theorem dX5_advance_66 : decode cX5_advance 66 = .ok (.iconst 0, 1) := by decide +kernel
theorem dX5_advance_67 : decode cX5_advance 67 = .ok (.putfield 19, 3) := by decide +kernel
theorem dX5_advance_70 : decode cX5_advance 70 = .ok (.return_, 1) := by decide +kernel
theorem dX5_advance_71 : decode cX5_advance 71 = .ok (.aload_n 0, 1) := by decide +kernel
theorem dX5_advance_72 : decode cX5_advance 72 = .ok (.aload_n 0, 1) := by decide +kernel
theorem dX5_advance_73 : decode cX5_advance 73 = .ok (.getfield 9, 3) := by decide +kernel
theorem dX5_advance_76 : decode cX5_advance 76 = .ok (.aload_n 0, 1) := by decide +kernel
theorem dX5_advance_77 : decode cX5_advance 77 = .ok (.getfield 22, 3) := by decide +kernel
theorem dX5_advance_80 : decode cX5_advance 80 = .ok (.iaload, 1) := by decide +kernel
theorem dX5_advance_81 : decode cX5_advance 81 = .ok (.invokestatic 112, 3) := by decide +kernel
theorem dX5_advance_84 : decode cX5_advance 84 = .ok (.putfield 19, 3) := by decide +kernel
theorem dX5_advance_87 : decode cX5_advance 87 = .ok (.aload_n 0, 1) := by decide +kernel
theorem dX5_advance_88 : decode cX5_advance 88 = .ok (.dup, 1) := by decide +kernel
theorem dX5_advance_89 : decode cX5_advance 89 = .ok (.getfield 25, 3) := by decide +kernel
theorem dX5_advance_92 : decode cX5_advance 92 = .ok (.iconst 1, 1) := by decide +kernel
theorem dX5_advance_93 : decode cX5_advance 93 = .ok (.iadd, 1) := by decide +kernel
theorem dX5_advance_94 : decode cX5_advance 94 = .ok (.putfield 25, 3) := by decide +kernel
theorem dX5_advance_97 : decode cX5_advance 97 = .ok (.aload_n 0, 1) := by decide +kernel
theorem dX5_advance_98 : decode cX5_advance 98 = .ok (.getfield 19, 3) := by decide +kernel
theorem dX5_advance_101 : decode cX5_advance 101 = .ok (.iconst 1, 1) := by decide +kernel
theorem dX5_advance_102 : decode cX5_advance 102 = .ok (.if_icmp .eq 12, 3) := by decide +kernel
theorem dX5_advance_105 : decode cX5_advance 105 = .ok (.aload_n 0, 1) := by decide +kernel
theorem dX5_advance_106 : decode cX5_advance 106 = .ok (.getfield 19, 3) := by decide +kernel
theorem dX5_advance_109 : decode cX5_advance 109 = .ok (.iconst 2, 1) := by decide +kernel
theorem dX5_advance_110 : decode cX5_advance 110 = .ok (.if_icmp .eq 4, 3) := by decide +kernel
theorem dX5_advance_113 : decode cX5_advance 113 = .ok (.return_, 1) := by decide +kernel
theorem dX5_advance_114 : decode cX5_advance 114 = .ok (.aload_n 0, 1) := by decide +kernel
theorem dX5_advance_115 : decode cX5_advance 115 = .ok (.getfield 25, 3) := by decide +kernel
theorem dX5_advance_118 : decode cX5_advance 118 = .ok (.aload_n 0, 1) := by decide +kernel
theorem dX5_advance_119 : decode cX5_advance 119 = .ok (.getfield 15, 3) := by decide +kernel
theorem dX5_advance_122 : decode cX5_advance 122 = .ok (.if_icmp .ge 35, 3) := by decide +kernel
theorem dX5_advance_125 : decode cX5_advance 125 = .ok (.aload_n 0, 1) := by decide +kernel
theorem dX5_advance_126 : decode cX5_advance 126 = .ok (.getfield 9, 3) := by decide +kernel
theorem dX5_advance_129 : decode cX5_advance 129 = .ok (.aload_n 0, 1) := by decide +kernel
theorem dX5_advance_130 : decode cX5_advance 130 = .ok (.getfield 25, 3) := by decide +kernel
theorem dX5_advance_133 : decode cX5_advance 133 = .ok (.iaload, 1) := by decide +kernel
theorem dX5_advance_134 : decode cX5_advance 134 = .ok (.invokestatic 112, 3) := by decide +kernel
theorem dX5_advance_137 : decode cX5_advance 137 = .ok (.aload_n 0, 1) := by decide +kernel
theorem dX5_advance_138 : decode cX5_advance 138 = .ok (.getfield 19, 3) := by decide +kernel
theorem dX5_advance_141 : decode cX5_advance 141 = .ok (.if_icmp .ne 16, 3) := by decide +kernel
theorem dX5_advance_144 : decode cX5_advance 144 = .ok (.aload_n 0, 1) := by decide +kernel
theorem dX5_advance_145 : decode cX5_advance 145 = .ok (.dup, 1) := by decide +kernel
theorem dX5_advance_146 : decode cX5_advance 146 = .ok (.getfield 25, 3) := by decide +kernel
theorem dX5_advance_149 : decode cX5_advance 149 = .ok (.iconst 1, 1) := by decide +kernel
theorem dX5_advance_150 : decode cX5_advance 150 = .ok (.iadd, 1) := by decide +kernel
theorem dX5_advance_151 : decode cX5_advance 151 = .ok (.putfield 25, 3) := by decide +kernel
theorem dX5_advance_154 : decode cX5_advance 154 = .ok (.goto (-40), 3) := by decide +kernel
theorem dX5_advance_157 : decode cX5_advance 157 = .ok (.return_, 1) := by decide +kernel
theorem dX5_findStatement_0 : decode cX5_findStatement 0 = .ok (.aload_n 0, 1) := by decide +kernel
theorem dX5_findStatement_1 : decode cX5_findStatement 1 = .ok (.getfield 19, 3) := by decide +kernel
theorem dX5_findStatement_4 : decode cX5_findStatement 4 = .ok (.iconst 1, 1) := by decide +kernel
theorem dX5_findStatement_5 : decode cX5_findStatement 5 = .ok (.if_icmp .eq 5, 3) := by decide +kernel
theorem dX5_findStatement_8 : decode cX5_findStatement 8 = .ok (.iconst (-1), 1) := by decide +kernel
theorem dX5_findStatement_9 : decode cX5_findStatement 9 = .ok (.ireturn, 1) := by decide +kernel
theorem dX5_findStatement_10 : decode cX5_findStatement 10 = .ok (.aload_n 0, 1) := by decide +kernel
theorem dX5_findStatement_11 : decode cX5_findStatement 11 = .ok (.ldc 90, 2) := by decide +kernel
theorem dX5_findStatement_13 : decode cX5_findStatement 13 = .ok (.invokevirtual 92, 3) := by decide +kernel
theorem dX5_findStatement_16 : decode cX5_findStatement 16 = .ok (.ifCond .eq 5, 3) := by decide +kernel
theorem dX5_findStatement_19 : decode cX5_findStatement 19 = .ok (.iconst 0, 1) := by decide +kernel
theorem dX5_findStatement_20 : decode cX5_findStatement 20 = .ok (.ireturn, 1) := by decide +kernel
theorem dX5_findStatement_21 : decode cX5_findStatement 21 = .ok (.aload_n 0, 1) := by decide +kernel
theorem dX5_findStatement_22 : decode cX5_findStatement 22 = .ok (.ldc 96, 2) := by decide +kernel
theorem dX5_findStatement_24 : decode cX5_findStatement 24 = .ok (.invokevirtual 92, 3) := by decide +kernel
theorem dX5_findStatement_27 : decode cX5_findStatement 27 = .ok (.ifCond .eq 5, 3) := by decide +kernel
theorem dX5_findStatement_30 : decode cX5_findStatement 30 = .ok (.iconst 1, 1) := by decide +kernel
theorem dX5_findStatement_31 : decode cX5_findStatement 31 = .ok (.ireturn, 1) := by decide +kernel
theorem dX5_findStatement_32 : decode cX5_findStatement 32 = .ok (.aload_n 0, 1) := by decide +kernel
theorem dX5_findStatement_33 : decode cX5_findStatement 33 = .ok (.ldc 98, 2) := by decide +kernel
theorem dX5_findStatement_35 : decode cX5_findStatement 35 = .ok (.invokevirtual 92, 3) := by decide +kernel
theorem dX5_findStatement_38 : decode cX5_findStatement 38 = .ok (.ifCond .eq 5, 3) := by decide +kernel
theorem dX5_findStatement_41 : decode cX5_findStatement 41 = .ok (.iconst 2, 1) := by decide +kernel
theorem dX5_findStatement_42 : decode cX5_findStatement 42 = .ok (.ireturn, 1) := by decide +kernel
theorem dX5_findStatement_43 : decode cX5_findStatement 43 = .ok (.aload_n 0, 1) := by decide +kernel
theorem dX5_findStatement_44 : decode cX5_findStatement 44 = .ok (.ldc 100, 2) := by decide +kernel
theorem dX5_findStatement_46 : decode cX5_findStatement 46 = .ok (.invokevirtual 92, 3) := by decide +kernel
theorem dX5_findStatement_49 : decode cX5_findStatement 49 = .ok (.ifCond .eq 5, 3) := by decide +kernel
theorem dX5_findStatement_52 : decode cX5_findStatement 52 = .ok (.iconst 3, 1) := by decide +kernel
theorem dX5_findStatement_53 : decode cX5_findStatement 53 = .ok (.ireturn, 1) := by decide +kernel
theorem dX5_findStatement_54 : decode cX5_findStatement 54 = .ok (.aload_n 0, 1) := by decide +kernel
theorem dX5_findStatement_55 : decode cX5_findStatement 55 = .ok (.ldc 102, 2) := by decide +kernel
theorem dX5_findStatement_57 : decode cX5_findStatement 57 = .ok (.invokevirtual 92, 3) := by decide +kernel
theorem dX5_findStatement_60 : decode cX5_findStatement 60 = .ok (.ifCond .eq 7, 3) := by decide +kernel
theorem dX5_findStatement_63 : decode cX5_findStatement 63 = .ok (.iconst 4, 1) := by decide +kernel
theorem dX5_findStatement_64 : decode cX5_findStatement 64 = .ok (.goto 4, 3) := by decide +kernel
theorem dX5_findStatement_67 : decode cX5_findStatement 67 = .ok (.iconst (-1), 1) := by decide +kernel
theorem dX5_findStatement_68 : decode cX5_findStatement 68 = .ok (.ireturn, 1) := by decide +kernel
theorem dX5_init_0 : decode cX5_init 0 = .ok (.aload_n 0, 1) := by decide +kernel
theorem dX5_init_1 : decode cX5_init 1 = .ok (.invokespecial 3, 3) := by decide +kernel
theorem dX5_init_4 : decode cX5_init 4 = .ok (.aload_n 0, 1) := by decide +kernel
theorem dX5_init_5 : decode cX5_init 5 = .ok (.sipush 160, 3) := by decide +kernel
theorem dX5_init_8 : decode cX5_init 8 = .ok (.newarray .int, 2) := by decide +kernel
theorem dX5_init_10 : decode cX5_init 10 = .ok (.putfield 9, 3) := by decide +kernel
theorem dX5_init_13 : decode cX5_init 13 = .ok (.aload_n 0, 1) := by decide +kernel
theorem dX5_init_14 : decode cX5_init 14 = .ok (.iconst 0, 1) := by decide +kernel
theorem dX5_init_15 : decode cX5_init 15 = .ok (.putfield 15, 3) := by decide +kernel
theorem dX5_init_18 : decode cX5_init 18 = .ok (.aload_n 0, 1) := by decide +kernel
theorem dX5_init_19 : decode cX5_init 19 = .ok (.iconst 0, 1) := by decide +kernel
theorem dX5_init_20 : decode cX5_init 20 = .ok (.putfield 19, 3) := by decide +kernel
theorem dX5_init_23 : decode cX5_init 23 = .ok (.aload_n 0, 1) := by decide +kernel
theorem dX5_init_24 : decode cX5_init 24 = .ok (.iconst 0, 1) := by decide +kernel
theorem dX5_init_25 : decode cX5_init 25 = .ok (.putfield 22, 3) := by decide +kernel
theorem dX5_init_28 : decode cX5_init 28 = .ok (.aload_n 0, 1) := by decide +kernel
theorem dX5_init_29 : decode cX5_init 29 = .ok (.iconst 0, 1) := by decide +kernel
theorem dX5_init_30 : decode cX5_init 30 = .ok (.putfield 25, 3) := by decide +kernel
theorem dX5_init_33 : decode cX5_init 33 = .ok (.aload_n 0, 1) := by decide +kernel
theorem dX5_init_34 : decode cX5_init 34 = .ok (.iconst 3, 1) := by decide +kernel
theorem dX5_init_35 : decode cX5_init 35 = .ok (.newarray .int, 2) := by decide +kernel
theorem dX5_init_37 : decode cX5_init 37 = .ok (.putfield 28, 3) := by decide +kernel
theorem dX5_init_40 : decode cX5_init 40 = .ok (.return_, 1) := by decide +kernel
theorem dX5_isFull_0 : decode cX5_isFull 0 = .ok (.iload_n 2, 1) := by decide +kernel
theorem dX5_isFull_1 : decode cX5_isFull 1 = .ok (.iconst 4, 1) := by decide +kernel
theorem dX5_isFull_2 : decode cX5_isFull 2 = .ok (.if_icmp .ne 18, 3) := by decide +kernel
theorem dX5_isFull_5 : decode cX5_isFull 5 = .ok (.aload_n 1, 1) := by decide +kernel
theorem dX5_isFull_6 : decode cX5_isFull 6 = .ok (.getfield 62, 3) := by decide +kernel
theorem dX5_isFull_9 : decode cX5_isFull 9 = .ok (.bipush 10, 2) := by decide +kernel
theorem dX5_isFull_11 : decode cX5_isFull 11 = .ok (.if_icmp .lt 7, 3) := by decide +kernel
theorem dX5_isFull_14 : decode cX5_isFull 14 = .ok (.iconst 1, 1) := by decide +kernel
theorem dX5_isFull_15 : decode cX5_isFull 15 = .ok (.goto 4, 3) := by decide +kernel
theorem dX5_isFull_18 : decode cX5_isFull 18 = .ok (.iconst 0, 1) := by decide +kernel
theorem dX5_isFull_19 : decode cX5_isFull 19 = .ok (.ireturn, 1) := by decide +kernel
theorem dX5_isFull_20 : decode cX5_isFull 20 = .ok (.aload_n 1, 1) := by decide +kernel
theorem dX5_isFull_21 : decode cX5_isFull 21 = .ok (.getfield 65, 3) := by decide +kernel
theorem dX5_isFull_24 : decode cX5_isFull 24 = .ok (.bipush 10, 2) := by decide +kernel
theorem dX5_isFull_26 : decode cX5_isFull 26 = .ok (.if_icmp .lt 7, 3) := by decide +kernel
theorem dX5_isFull_29 : decode cX5_isFull 29 = .ok (.iconst 1, 1) := by decide +kernel
theorem dX5_isFull_30 : decode cX5_isFull 30 = .ok (.goto 4, 3) := by decide +kernel
theorem dX5_isFull_33 : decode cX5_isFull 33 = .ok (.iconst 0, 1) := by decide +kernel
theorem dX5_isFull_34 : decode cX5_isFull 34 = .ok (.ireturn, 1) := by decide +kernel
theorem dX5_numberValue_0 : decode cX5_numberValue 0 = .ok (.aload_n 0, 1) := by decide +kernel
theorem dX5_numberValue_1 : decode cX5_numberValue 1 = .ok (.getfield 19, 3) := by decide +kernel
theorem dX5_numberValue_4 : decode cX5_numberValue 4 = .ok (.iconst 2, 1) := by decide +kernel
theorem dX5_numberValue_5 : decode cX5_numberValue 5 = .ok (.if_icmp .eq 5, 3) := by decide +kernel
theorem dX5_numberValue_8 : decode cX5_numberValue 8 = .ok (.iconst (-1), 1) := by decide +kernel
theorem dX5_numberValue_9 : decode cX5_numberValue 9 = .ok (.ireturn, 1) := by decide +kernel
theorem dX5_numberValue_10 : decode cX5_numberValue 10 = .ok (.aload_n 0, 1) := by decide +kernel
theorem dX5_numberValue_11 : decode cX5_numberValue 11 = .ok (.getfield 9, 3) := by decide +kernel
theorem dX5_numberValue_14 : decode cX5_numberValue 14 = .ok (.aload_n 0, 1) := by decide +kernel
theorem dX5_numberValue_15 : decode cX5_numberValue 15 = .ok (.getfield 22, 3) := by decide +kernel
theorem dX5_numberValue_18 : decode cX5_numberValue 18 = .ok (.iaload, 1) := by decide +kernel
theorem dX5_numberValue_19 : decode cX5_numberValue 19 = .ok (.bipush 48, 2) := by decide +kernel
theorem dX5_numberValue_21 : decode cX5_numberValue 21 = .ok (.isub, 1) := by decide +kernel
theorem dX5_numberValue_22 : decode cX5_numberValue 22 = .ok (.istore_n 1, 1) := by decide +kernel
theorem dX5_numberValue_23 : decode cX5_numberValue 23 = .ok (.aload_n 0, 1) := by decide +kernel
theorem dX5_numberValue_24 : decode cX5_numberValue 24 = .ok (.getfield 25, 3) := by decide +kernel
theorem dX5_numberValue_27 : decode cX5_numberValue 27 = .ok (.aload_n 0, 1) := by decide +kernel
theorem dX5_numberValue_28 : decode cX5_numberValue 28 = .ok (.getfield 22, 3) := by decide +kernel
theorem dX5_numberValue_31 : decode cX5_numberValue 31 = .ok (.isub, 1) := by decide +kernel
theorem dX5_numberValue_32 : decode cX5_numberValue 32 = .ok (.iconst 1, 1) := by decide +kernel
theorem dX5_numberValue_33 : decode cX5_numberValue 33 = .ok (.if_icmp .ne 5, 3) := by decide +kernel
theorem dX5_numberValue_36 : decode cX5_numberValue 36 = .ok (.iload_n 1, 1) := by decide +kernel
theorem dX5_numberValue_37 : decode cX5_numberValue 37 = .ok (.ireturn, 1) := by decide +kernel
theorem dX5_numberValue_38 : decode cX5_numberValue 38 = .ok (.aload_n 0, 1) := by decide +kernel
theorem dX5_numberValue_39 : decode cX5_numberValue 39 = .ok (.getfield 25, 3) := by decide +kernel
theorem dX5_numberValue_42 : decode cX5_numberValue 42 = .ok (.aload_n 0, 1) := by decide +kernel
theorem dX5_numberValue_43 : decode cX5_numberValue 43 = .ok (.getfield 22, 3) := by decide +kernel
theorem dX5_numberValue_46 : decode cX5_numberValue 46 = .ok (.isub, 1) := by decide +kernel
theorem dX5_numberValue_47 : decode cX5_numberValue 47 = .ok (.iconst 2, 1) := by decide +kernel
theorem dX5_numberValue_48 : decode cX5_numberValue 48 = .ok (.if_icmp .gt 7, 3) := by decide +kernel
theorem dX5_numberValue_51 : decode cX5_numberValue 51 = .ok (.iload_n 1, 1) := by decide +kernel
theorem dX5_numberValue_52 : decode cX5_numberValue 52 = .ok (.ifCond .ne 5, 3) := by decide +kernel
theorem dX5_numberValue_55 : decode cX5_numberValue 55 = .ok (.iconst (-1), 1) := by decide +kernel
theorem dX5_numberValue_56 : decode cX5_numberValue 56 = .ok (.ireturn, 1) := by decide +kernel
theorem dX5_numberValue_57 : decode cX5_numberValue 57 = .ok (.iload_n 1, 1) := by decide +kernel
theorem dX5_numberValue_58 : decode cX5_numberValue 58 = .ok (.bipush 10, 2) := by decide +kernel
theorem dX5_numberValue_60 : decode cX5_numberValue 60 = .ok (.imul, 1) := by decide +kernel
theorem dX5_numberValue_61 : decode cX5_numberValue 61 = .ok (.aload_n 0, 1) := by decide +kernel
theorem dX5_numberValue_62 : decode cX5_numberValue 62 = .ok (.getfield 9, 3) := by decide +kernel
theorem dX5_numberValue_65 : decode cX5_numberValue 65 = .ok (.aload_n 0, 1) := by decide +kernel
theorem dX5_numberValue_66 : decode cX5_numberValue 66 = .ok (.getfield 22, 3) := by decide +kernel
theorem dX5_numberValue_69 : decode cX5_numberValue 69 = .ok (.iconst 1, 1) := by decide +kernel
theorem dX5_numberValue_70 : decode cX5_numberValue 70 = .ok (.iadd, 1) := by decide +kernel
theorem dX5_numberValue_71 : decode cX5_numberValue 71 = .ok (.iaload, 1) := by decide +kernel
theorem dX5_numberValue_72 : decode cX5_numberValue 72 = .ok (.iadd, 1) := by decide +kernel
theorem dX5_numberValue_73 : decode cX5_numberValue 73 = .ok (.bipush 48, 2) := by decide +kernel
theorem dX5_numberValue_75 : decode cX5_numberValue 75 = .ok (.isub, 1) := by decide +kernel
theorem dX5_numberValue_76 : decode cX5_numberValue 76 = .ok (.ireturn, 1) := by decide +kernel
theorem dX5_perform_0 : decode cX5_perform 0 = .ok (.iload_n 2, 1) := by decide +kernel
theorem dX5_perform_1 : decode cX5_perform 1 = .ok (.tableswitch 122 0 4 #[35, 56, 35, 82, 103], 35) := by decide +kernel
theorem dX5_perform_36 : decode cX5_perform 36 = .ok (.aload_n 1, 1) := by decide +kernel
theorem dX5_perform_37 : decode cX5_perform 37 = .ok (.iload_n 2, 1) := by decide +kernel
theorem dX5_perform_38 : decode cX5_perform 38 = .ok (.aload_n 0, 1) := by decide +kernel
theorem dX5_perform_39 : decode cX5_perform 39 = .ok (.getfield 28, 3) := by decide +kernel
theorem dX5_perform_42 : decode cX5_perform 42 = .ok (.iconst 0, 1) := by decide +kernel
theorem dX5_perform_43 : decode cX5_perform 43 = .ok (.iaload, 1) := by decide +kernel
theorem dX5_perform_44 : decode cX5_perform 44 = .ok (.iconst 0, 1) := by decide +kernel
theorem dX5_perform_45 : decode cX5_perform 45 = .ok (.aload_n 0, 1) := by decide +kernel
theorem dX5_perform_46 : decode cX5_perform 46 = .ok (.getfield 28, 3) := by decide +kernel
theorem dX5_perform_49 : decode cX5_perform 49 = .ok (.iconst 1, 1) := by decide +kernel
theorem dX5_perform_50 : decode cX5_perform 50 = .ok (.iaload, 1) := by decide +kernel
theorem dX5_perform_51 : decode cX5_perform 51 = .ok (.invokevirtual 82, 3) := by decide +kernel
theorem dX5_perform_54 : decode cX5_perform 54 = .ok (.goto 69, 3) := by decide +kernel
theorem dX5_perform_57 : decode cX5_perform 57 = .ok (.aload_n 1, 1) := by decide +kernel
theorem dX5_perform_58 : decode cX5_perform 58 = .ok (.iconst 1, 1) := by decide +kernel
theorem dX5_perform_59 : decode cX5_perform 59 = .ok (.aload_n 0, 1) := by decide +kernel
theorem dX5_perform_60 : decode cX5_perform 60 = .ok (.getfield 28, 3) := by decide +kernel
theorem dX5_perform_63 : decode cX5_perform 63 = .ok (.iconst 0, 1) := by decide +kernel
theorem dX5_perform_64 : decode cX5_perform 64 = .ok (.iaload, 1) := by decide +kernel
theorem dX5_perform_65 : decode cX5_perform 65 = .ok (.aload_n 0, 1) := by decide +kernel
theorem dX5_perform_66 : decode cX5_perform 66 = .ok (.getfield 28, 3) := by decide +kernel
theorem dX5_perform_69 : decode cX5_perform 69 = .ok (.iconst 1, 1) := by decide +kernel
theorem dX5_perform_70 : decode cX5_perform 70 = .ok (.iaload, 1) := by decide +kernel
theorem dX5_perform_71 : decode cX5_perform 71 = .ok (.aload_n 0, 1) := by decide +kernel
theorem dX5_perform_72 : decode cX5_perform 72 = .ok (.getfield 28, 3) := by decide +kernel
theorem dX5_perform_75 : decode cX5_perform 75 = .ok (.iconst 2, 1) := by decide +kernel
theorem dX5_perform_76 : decode cX5_perform 76 = .ok (.iaload, 1) := by decide +kernel
theorem dX5_perform_77 : decode cX5_perform 77 = .ok (.invokevirtual 82, 3) := by decide +kernel
theorem dX5_perform_80 : decode cX5_perform 80 = .ok (.goto 43, 3) := by decide +kernel
theorem dX5_perform_83 : decode cX5_perform 83 = .ok (.aload_n 1, 1) := by decide +kernel
theorem dX5_perform_84 : decode cX5_perform 84 = .ok (.iconst 3, 1) := by decide +kernel
theorem dX5_perform_85 : decode cX5_perform 85 = .ok (.iconst 0, 1) := by decide +kernel
theorem dX5_perform_86 : decode cX5_perform 86 = .ok (.aload_n 0, 1) := by decide +kernel
theorem dX5_perform_87 : decode cX5_perform 87 = .ok (.getfield 28, 3) := by decide +kernel
theorem dX5_perform_90 : decode cX5_perform 90 = .ok (.iconst 0, 1) := by decide +kernel
theorem dX5_perform_91 : decode cX5_perform 91 = .ok (.iaload, 1) := by decide +kernel
theorem dX5_perform_92 : decode cX5_perform 92 = .ok (.aload_n 0, 1) := by decide +kernel
theorem dX5_perform_93 : decode cX5_perform 93 = .ok (.getfield 28, 3) := by decide +kernel
theorem dX5_perform_96 : decode cX5_perform 96 = .ok (.iconst 1, 1) := by decide +kernel
theorem dX5_perform_97 : decode cX5_perform 97 = .ok (.iaload, 1) := by decide +kernel
theorem dX5_perform_98 : decode cX5_perform 98 = .ok (.invokevirtual 82, 3) := by decide +kernel
theorem dX5_perform_101 : decode cX5_perform 101 = .ok (.goto 22, 3) := by decide +kernel
theorem dX5_perform_104 : decode cX5_perform 104 = .ok (.aload_n 1, 1) := by decide +kernel
theorem dX5_perform_105 : decode cX5_perform 105 = .ok (.aload_n 0, 1) := by decide +kernel
theorem dX5_perform_106 : decode cX5_perform 106 = .ok (.getfield 28, 3) := by decide +kernel
theorem dX5_perform_109 : decode cX5_perform 109 = .ok (.iconst 0, 1) := by decide +kernel
theorem dX5_perform_110 : decode cX5_perform 110 = .ok (.iaload, 1) := by decide +kernel
theorem dX5_perform_111 : decode cX5_perform 111 = .ok (.aload_n 0, 1) := by decide +kernel
theorem dX5_perform_112 : decode cX5_perform 112 = .ok (.getfield 28, 3) := by decide +kernel
theorem dX5_perform_115 : decode cX5_perform 115 = .ok (.iconst 1, 1) := by decide +kernel
theorem dX5_perform_116 : decode cX5_perform 116 = .ok (.iaload, 1) := by decide +kernel
theorem dX5_perform_117 : decode cX5_perform 117 = .ok (.invokevirtual 86, 3) := by decide +kernel
theorem dX5_perform_120 : decode cX5_perform 120 = .ok (.goto 3, 3) := by decide +kernel
theorem dX5_perform_123 : decode cX5_perform 123 = .ok (.return_, 1) := by decide +kernel
theorem dX5_readInto_0 : decode cX5_readInto 0 = .ok (.aload_n 1, 1) := by decide +kernel
theorem dX5_readInto_1 : decode cX5_readInto 1 = .ok (.invokevirtual 31, 3) := by decide +kernel
theorem dX5_readInto_4 : decode cX5_readInto 4 = .ok (.aload_n 0, 1) := by decide +kernel
theorem dX5_readInto_5 : decode cX5_readInto 5 = .ok (.iconst 0, 1) := by decide +kernel
theorem dX5_readInto_6 : decode cX5_readInto 6 = .ok (.putfield 25, 3) := by decide +kernel
theorem dX5_readInto_9 : decode cX5_readInto 9 = .ok (.aload_n 0, 1) := by decide +kernel
theorem dX5_readInto_10 : decode cX5_readInto 10 = .ok (.invokevirtual 36, 3) := by decide +kernel
theorem dX5_readInto_13 : decode cX5_readInto 13 = .ok (.iconst 0, 1) := by decide +kernel
theorem dX5_readInto_14 : decode cX5_readInto 14 = .ok (.istore_n 2, 1) := by decide +kernel
theorem dX5_readInto_15 : decode cX5_readInto 15 = .ok (.iload_n 2, 1) := by decide +kernel
theorem dX5_readInto_16 : decode cX5_readInto 16 = .ok (.sipush 160, 3) := by decide +kernel
theorem dX5_readInto_19 : decode cX5_readInto 19 = .ok (.if_icmp .ge 29, 3) := by decide +kernel
theorem dX5_readInto_22 : decode cX5_readInto 22 = .ok (.aload_n 0, 1) := by decide +kernel
theorem dX5_readInto_23 : decode cX5_readInto 23 = .ok (.getfield 19, 3) := by decide +kernel
theorem dX5_readInto_26 : decode cX5_readInto 26 = .ok (.ifCond .eq 22, 3) := by decide +kernel
theorem dX5_readInto_29 : decode cX5_readInto 29 = .ok (.aload_n 0, 1) := by decide +kernel
theorem dX5_readInto_30 : decode cX5_readInto 30 = .ok (.aload_n 1, 1) := by decide +kernel
theorem dX5_readInto_31 : decode cX5_readInto 31 = .ok (.invokevirtual 39, 3) := by decide +kernel
theorem dX5_readInto_34 : decode cX5_readInto 34 = .ok (.ifCond .ne 8, 3) := by decide +kernel
theorem dX5_readInto_37 : decode cX5_readInto 37 = .ok (.aload_n 0, 1) := by decide +kernel
theorem dX5_readInto_38 : decode cX5_readInto 38 = .ok (.getfield 22, 3) := by decide +kernel
theorem dX5_readInto_41 : decode cX5_readInto 41 = .ok (.ireturn, 1) := by decide +kernel
theorem dX5_readInto_42 : decode cX5_readInto 42 = .ok (.iinc 2 1, 3) := by decide +kernel
theorem dX5_readInto_45 : decode cX5_readInto 45 = .ok (.goto (-30), 3) := by decide +kernel
theorem dX5_readInto_48 : decode cX5_readInto 48 = .ok (.iconst (-1), 1) := by decide +kernel
theorem dX5_readInto_49 : decode cX5_readInto 49 = .ok (.ireturn, 1) := by decide +kernel
theorem dX5_readStatement_0 : decode cX5_readStatement 0 = .ok (.aload_n 0, 1) := by decide +kernel
theorem dX5_readStatement_1 : decode cX5_readStatement 1 = .ok (.invokevirtual 43, 3) := by decide +kernel
theorem dX5_readStatement_4 : decode cX5_readStatement 4 = .ok (.istore_n 2, 1) := by decide +kernel
theorem dX5_readStatement_5 : decode cX5_readStatement 5 = .ok (.iload_n 2, 1) := by decide +kernel
theorem dX5_readStatement_6 : decode cX5_readStatement 6 = .ok (.iconst (-1), 1) := by decide +kernel
theorem dX5_readStatement_7 : decode cX5_readStatement 7 = .ok (.if_icmp .eq 12, 3) := by decide +kernel
theorem dX5_readStatement_10 : decode cX5_readStatement 10 = .ok (.aload_n 0, 1) := by decide +kernel
theorem dX5_readStatement_11 : decode cX5_readStatement 11 = .ok (.aload_n 1, 1) := by decide +kernel
theorem dX5_readStatement_12 : decode cX5_readStatement 12 = .ok (.iload_n 2, 1) := by decide +kernel
theorem dX5_readStatement_13 : decode cX5_readStatement 13 = .ok (.invokevirtual 47, 3) := by decide +kernel
theorem dX5_readStatement_16 : decode cX5_readStatement 16 = .ok (.ifCond .eq 5, 3) := by decide +kernel
theorem dX5_readStatement_19 : decode cX5_readStatement 19 = .ok (.iconst 0, 1) := by decide +kernel
theorem dX5_readStatement_20 : decode cX5_readStatement 20 = .ok (.ireturn, 1) := by decide +kernel
theorem dX5_readStatement_21 : decode cX5_readStatement 21 = .ok (.aload_n 0, 1) := by decide +kernel
theorem dX5_readStatement_22 : decode cX5_readStatement 22 = .ok (.invokevirtual 36, 3) := by decide +kernel
theorem dX5_readStatement_25 : decode cX5_readStatement 25 = .ok (.iload_n 2, 1) := by decide +kernel
theorem dX5_readStatement_26 : decode cX5_readStatement 26 = .ok (.iconst 1, 1) := by decide +kernel
theorem dX5_readStatement_27 : decode cX5_readStatement 27 = .ok (.if_icmp .ne 7, 3) := by decide +kernel
theorem dX5_readStatement_30 : decode cX5_readStatement 30 = .ok (.iconst 3, 1) := by decide +kernel
theorem dX5_readStatement_31 : decode cX5_readStatement 31 = .ok (.goto 4, 3) := by decide +kernel
theorem dX5_readStatement_34 : decode cX5_readStatement 34 = .ok (.iconst 2, 1) := by decide +kernel
theorem dX5_readStatement_35 : decode cX5_readStatement 35 = .ok (.istore_n 3, 1) := by decide +kernel
theorem dX5_readStatement_36 : decode cX5_readStatement 36 = .ok (.iconst 0, 1) := by decide +kernel
theorem dX5_readStatement_37 : decode cX5_readStatement 37 = .ok (.istore 4, 2) := by decide +kernel
theorem dX5_readStatement_39 : decode cX5_readStatement 39 = .ok (.iload 4, 2) := by decide +kernel
theorem dX5_readStatement_41 : decode cX5_readStatement 41 = .ok (.iload_n 3, 1) := by decide +kernel
theorem dX5_readStatement_42 : decode cX5_readStatement 42 = .ok (.if_icmp .ge 49, 3) := by decide +kernel
theorem dX5_readStatement_45 : decode cX5_readStatement 45 = .ok (.aload_n 0, 1) := by decide +kernel
theorem dX5_readStatement_46 : decode cX5_readStatement 46 = .ok (.invokevirtual 51, 3) := by decide +kernel
theorem dX5_readStatement_49 : decode cX5_readStatement 49 = .ok (.istore 5, 2) := by decide +kernel
theorem dX5_readStatement_51 : decode cX5_readStatement 51 = .ok (.iload 5, 2) := by decide +kernel
theorem dX5_readStatement_53 : decode cX5_readStatement 53 = .ok (.iconst (-1), 1) := by decide +kernel
theorem dX5_readStatement_54 : decode cX5_readStatement 54 = .ok (.if_icmp .eq 16, 3) := by decide +kernel
theorem dX5_readStatement_57 : decode cX5_readStatement 57 = .ok (.aload_n 0, 1) := by decide +kernel
theorem dX5_readStatement_58 : decode cX5_readStatement 58 = .ok (.aload_n 1, 1) := by decide +kernel
theorem dX5_readStatement_59 : decode cX5_readStatement 59 = .ok (.iload_n 2, 1) := by decide +kernel
theorem dX5_readStatement_60 : decode cX5_readStatement 60 = .ok (.iload 4, 2) := by decide +kernel
theorem dX5_readStatement_62 : decode cX5_readStatement 62 = .ok (.iload 5, 2) := by decide +kernel
theorem dX5_readStatement_64 : decode cX5_readStatement 64 = .ok (.invokevirtual 54, 3) := by decide +kernel
theorem dX5_readStatement_67 : decode cX5_readStatement 67 = .ok (.ifCond .ne 5, 3) := by decide +kernel
theorem dX5_readStatement_70 : decode cX5_readStatement 70 = .ok (.iconst 0, 1) := by decide +kernel
theorem dX5_readStatement_71 : decode cX5_readStatement 71 = .ok (.ireturn, 1) := by decide +kernel
theorem dX5_readStatement_72 : decode cX5_readStatement 72 = .ok (.aload_n 0, 1) := by decide +kernel
theorem dX5_readStatement_73 : decode cX5_readStatement 73 = .ok (.getfield 28, 3) := by decide +kernel
theorem dX5_readStatement_76 : decode cX5_readStatement 76 = .ok (.iload 4, 2) := by decide +kernel
theorem dX5_readStatement_78 : decode cX5_readStatement 78 = .ok (.iload 5, 2) := by decide +kernel
theorem dX5_readStatement_80 : decode cX5_readStatement 80 = .ok (.iastore, 1) := by decide +kernel
theorem dX5_readStatement_81 : decode cX5_readStatement 81 = .ok (.aload_n 0, 1) := by decide +kernel
theorem dX5_readStatement_82 : decode cX5_readStatement 82 = .ok (.invokevirtual 36, 3) := by decide +kernel
theorem dX5_readStatement_85 : decode cX5_readStatement 85 = .ok (.iinc 4 1, 3) := by decide +kernel
theorem dX5_readStatement_88 : decode cX5_readStatement 88 = .ok (.goto (-49), 3) := by decide +kernel
theorem dX5_readStatement_91 : decode cX5_readStatement 91 = .ok (.aload_n 0, 1) := by decide +kernel
theorem dX5_readStatement_92 : decode cX5_readStatement 92 = .ok (.getfield 19, 3) := by decide +kernel
theorem dX5_readStatement_95 : decode cX5_readStatement 95 = .ok (.iconst 3, 1) := by decide +kernel
theorem dX5_readStatement_96 : decode cX5_readStatement 96 = .ok (.if_icmp .eq 5, 3) := by decide +kernel
theorem dX5_readStatement_99 : decode cX5_readStatement 99 = .ok (.iconst 0, 1) := by decide +kernel
theorem dX5_readStatement_100 : decode cX5_readStatement 100 = .ok (.ireturn, 1) := by decide +kernel
theorem dX5_readStatement_101 : decode cX5_readStatement 101 = .ok (.aload_n 0, 1) := by decide +kernel
theorem dX5_readStatement_102 : decode cX5_readStatement 102 = .ok (.invokevirtual 36, 3) := by decide +kernel
theorem dX5_readStatement_105 : decode cX5_readStatement 105 = .ok (.aload_n 0, 1) := by decide +kernel
theorem dX5_readStatement_106 : decode cX5_readStatement 106 = .ok (.aload_n 1, 1) := by decide +kernel
theorem dX5_readStatement_107 : decode cX5_readStatement 107 = .ok (.iload_n 2, 1) := by decide +kernel
theorem dX5_readStatement_108 : decode cX5_readStatement 108 = .ok (.invokevirtual 58, 3) := by decide +kernel
theorem dX5_readStatement_111 : decode cX5_readStatement 111 = .ok (.iconst 1, 1) := by decide +kernel
theorem dX5_readStatement_112 : decode cX5_readStatement 112 = .ok (.ireturn, 1) := by decide +kernel
theorem dX5_tokenIs_0 : decode cX5_tokenIs 0 = .ok (.aload_n 0, 1) := by decide +kernel
theorem dX5_tokenIs_1 : decode cX5_tokenIs 1 = .ok (.getfield 25, 3) := by decide +kernel
theorem dX5_tokenIs_4 : decode cX5_tokenIs 4 = .ok (.aload_n 0, 1) := by decide +kernel
theorem dX5_tokenIs_5 : decode cX5_tokenIs 5 = .ok (.getfield 22, 3) := by decide +kernel
theorem dX5_tokenIs_8 : decode cX5_tokenIs 8 = .ok (.isub, 1) := by decide +kernel
theorem dX5_tokenIs_9 : decode cX5_tokenIs 9 = .ok (.aload_n 1, 1) := by decide +kernel
theorem dX5_tokenIs_10 : decode cX5_tokenIs 10 = .ok (.invokevirtual 104, 3) := by decide +kernel
theorem dX5_tokenIs_13 : decode cX5_tokenIs 13 = .ok (.if_icmp .eq 5, 3) := by decide +kernel
theorem dX5_tokenIs_16 : decode cX5_tokenIs 16 = .ok (.iconst 0, 1) := by decide +kernel
theorem dX5_tokenIs_17 : decode cX5_tokenIs 17 = .ok (.ireturn, 1) := by decide +kernel
theorem dX5_tokenIs_18 : decode cX5_tokenIs 18 = .ok (.iconst 0, 1) := by decide +kernel
theorem dX5_tokenIs_19 : decode cX5_tokenIs 19 = .ok (.istore_n 2, 1) := by decide +kernel
theorem dX5_tokenIs_20 : decode cX5_tokenIs 20 = .ok (.iload_n 2, 1) := by decide +kernel
theorem dX5_tokenIs_21 : decode cX5_tokenIs 21 = .ok (.aload_n 1, 1) := by decide +kernel
theorem dX5_tokenIs_22 : decode cX5_tokenIs 22 = .ok (.invokevirtual 104, 3) := by decide +kernel
theorem dX5_tokenIs_25 : decode cX5_tokenIs 25 = .ok (.if_icmp .ge 30, 3) := by decide +kernel
theorem dX5_tokenIs_28 : decode cX5_tokenIs 28 = .ok (.aload_n 0, 1) := by decide +kernel
theorem dX5_tokenIs_29 : decode cX5_tokenIs 29 = .ok (.getfield 9, 3) := by decide +kernel
theorem dX5_tokenIs_32 : decode cX5_tokenIs 32 = .ok (.aload_n 0, 1) := by decide +kernel
theorem dX5_tokenIs_33 : decode cX5_tokenIs 33 = .ok (.getfield 22, 3) := by decide +kernel
theorem dX5_tokenIs_36 : decode cX5_tokenIs 36 = .ok (.iload_n 2, 1) := by decide +kernel
theorem dX5_tokenIs_37 : decode cX5_tokenIs 37 = .ok (.iadd, 1) := by decide +kernel
theorem dX5_tokenIs_38 : decode cX5_tokenIs 38 = .ok (.iaload, 1) := by decide +kernel
theorem dX5_tokenIs_39 : decode cX5_tokenIs 39 = .ok (.aload_n 1, 1) := by decide +kernel
theorem dX5_tokenIs_40 : decode cX5_tokenIs 40 = .ok (.iload_n 2, 1) := by decide +kernel
theorem dX5_tokenIs_41 : decode cX5_tokenIs 41 = .ok (.invokevirtual 108, 3) := by decide +kernel
theorem dX5_tokenIs_44 : decode cX5_tokenIs 44 = .ok (.if_icmp .eq 5, 3) := by decide +kernel
theorem dX5_tokenIs_47 : decode cX5_tokenIs 47 = .ok (.iconst 0, 1) := by decide +kernel
theorem dX5_tokenIs_48 : decode cX5_tokenIs 48 = .ok (.ireturn, 1) := by decide +kernel
theorem dX5_tokenIs_49 : decode cX5_tokenIs 49 = .ok (.iinc 2 1, 3) := by decide +kernel
theorem dX5_tokenIs_52 : decode cX5_tokenIs 52 = .ok (.goto (-32), 3) := by decide +kernel
theorem dX5_tokenIs_55 : decode cX5_tokenIs 55 = .ok (.iconst 1, 1) := by decide +kernel
theorem dX5_tokenIs_56 : decode cX5_tokenIs 56 = .ok (.ireturn, 1) := by decide +kernel
theorem dX5_typeOf_0 : decode cX5_typeOf 0 = .ok (.iload_n 0, 1) := by decide +kernel
theorem dX5_typeOf_1 : decode cX5_typeOf 1 = .ok (.bipush 97, 2) := by decide +kernel
theorem dX5_typeOf_3 : decode cX5_typeOf 3 = .ok (.if_icmp .lt 11, 3) := by decide +kernel
theorem dX5_typeOf_6 : decode cX5_typeOf 6 = .ok (.iload_n 0, 1) := by decide +kernel
theorem dX5_typeOf_7 : decode cX5_typeOf 7 = .ok (.bipush 122, 2) := by decide +kernel
theorem dX5_typeOf_9 : decode cX5_typeOf 9 = .ok (.if_icmp .gt 5, 3) := by decide +kernel
theorem dX5_typeOf_12 : decode cX5_typeOf 12 = .ok (.iconst 1, 1) := by decide +kernel
theorem dX5_typeOf_13 : decode cX5_typeOf 13 = .ok (.ireturn, 1) := by decide +kernel
theorem dX5_typeOf_14 : decode cX5_typeOf 14 = .ok (.iload_n 0, 1) := by decide +kernel
theorem dX5_typeOf_15 : decode cX5_typeOf 15 = .ok (.bipush 48, 2) := by decide +kernel
theorem dX5_typeOf_17 : decode cX5_typeOf 17 = .ok (.if_icmp .lt 11, 3) := by decide +kernel
theorem dX5_typeOf_20 : decode cX5_typeOf 20 = .ok (.iload_n 0, 1) := by decide +kernel
theorem dX5_typeOf_21 : decode cX5_typeOf 21 = .ok (.bipush 57, 2) := by decide +kernel
theorem dX5_typeOf_23 : decode cX5_typeOf 23 = .ok (.if_icmp .gt 5, 3) := by decide +kernel
theorem dX5_typeOf_26 : decode cX5_typeOf 26 = .ok (.iconst 2, 1) := by decide +kernel
theorem dX5_typeOf_27 : decode cX5_typeOf 27 = .ok (.ireturn, 1) := by decide +kernel
theorem dX5_typeOf_28 : decode cX5_typeOf 28 = .ok (.iload_n 0, 1) := by decide +kernel
theorem dX5_typeOf_29 : decode cX5_typeOf 29 = .ok (.bipush 59, 2) := by decide +kernel
theorem dX5_typeOf_31 : decode cX5_typeOf 31 = .ok (.if_icmp .ne 7, 3) := by decide +kernel
theorem dX5_typeOf_34 : decode cX5_typeOf 34 = .ok (.iconst 3, 1) := by decide +kernel
theorem dX5_typeOf_35 : decode cX5_typeOf 35 = .ok (.goto 4, 3) := by decide +kernel
theorem dX5_typeOf_38 : decode cX5_typeOf 38 = .ok (.iconst 4, 1) := by decide +kernel
theorem dX5_typeOf_39 : decode cX5_typeOf 39 = .ok (.ireturn, 1) := by decide +kernel
theorem dX6_addReference_0 : decode cX6_addReference 0 = .ok (.aload_n 0, 1) := by decide +kernel
theorem dX6_addReference_1 : decode cX6_addReference 1 = .ok (.getfield 19, 3) := by decide +kernel
theorem dX6_addReference_4 : decode cX6_addReference 4 = .ok (.iload_n 1, 1) := by decide +kernel
theorem dX6_addReference_5 : decode cX6_addReference 5 = .ok (.invokevirtual 102, 3) := by decide +kernel
theorem dX6_addReference_8 : decode cX6_addReference 8 = .ok (.ifCond .eq 14, 3) := by decide +kernel
theorem dX6_addReference_11 : decode cX6_addReference 11 = .ok (.aload_n 0, 1) := by decide +kernel
theorem dX6_addReference_12 : decode cX6_addReference 12 = .ok (.getfield 19, 3) := by decide +kernel
theorem dX6_addReference_15 : decode cX6_addReference 15 = .ok (.iload_n 2, 1) := by decide +kernel
theorem dX6_addReference_16 : decode cX6_addReference 16 = .ok (.invokevirtual 86, 3) := by decide +kernel
theorem dX6_addReference_19 : decode cX6_addReference 19 = .ok (.ifCond .ne 5, 3) := by decide +kernel
theorem dX6_addReference_22 : decode cX6_addReference 22 = .ok (.iconst (-1), 1) := by decide +kernel
theorem dX6_addReference_23 : decode cX6_addReference 23 = .ok (.ireturn, 1) := by decide +kernel
theorem dX6_addReference_24 : decode cX6_addReference 24 = .ok (.aload_n 0, 1) := by decide +kernel
theorem dX6_addReference_25 : decode cX6_addReference 25 = .ok (.getfield 19, 3) := by decide +kernel
theorem dX6_addReference_28 : decode cX6_addReference 28 = .ok (.iload_n 1, 1) := by decide +kernel
theorem dX6_addReference_29 : decode cX6_addReference 29 = .ok (.iload_n 2, 1) := by decide +kernel
theorem dX6_addReference_30 : decode cX6_addReference 30 = .ok (.invokevirtual 105, 3) := by decide +kernel
theorem dX6_addReference_33 : decode cX6_addReference 33 = .ok (.ifCond .eq 6, 3) := by decide +kernel
theorem dX6_addReference_36 : decode cX6_addReference 36 = .ok (.bipush (-2), 2) := by decide +kernel
theorem dX6_addReference_38 : decode cX6_addReference 38 = .ok (.ireturn, 1) := by decide +kernel
theorem dX6_addReference_39 : decode cX6_addReference 39 = .ok (.aload_n 0, 1) := by decide +kernel
theorem dX6_addReference_40 : decode cX6_addReference 40 = .ok (.getfield 19, 3) := by decide +kernel
theorem dX6_addReference_43 : decode cX6_addReference 43 = .ok (.getfield 109, 3) := by decide +kernel
theorem dX6_addReference_46 : decode cX6_addReference 46 = .ok (.bipush 10, 2) := by decide +kernel
theorem dX6_addReference_48 : decode cX6_addReference 48 = .ok (.if_icmp .lt 6, 3) := by decide +kernel
theorem dX6_addReference_51 : decode cX6_addReference 51 = .ok (.bipush (-3), 2) := by decide +kernel
theorem dX6_addReference_53 : decode cX6_addReference 53 = .ok (.ireturn, 1) := by decide +kernel
theorem dX6_addReference_54 : decode cX6_addReference 54 = .ok (.aload_n 0, 1) := by decide +kernel
theorem dX6_addReference_55 : decode cX6_addReference 55 = .ok (.invokevirtual 73, 3) := by decide +kernel
theorem dX6_addReference_58 : decode cX6_addReference 58 = .ok (.aload_n 0, 1) := by decide +kernel
theorem dX6_addReference_59 : decode cX6_addReference 59 = .ok (.getfield 19, 3) := by decide +kernel
theorem dX6_addReference_62 : decode cX6_addReference 62 = .ok (.iload_n 1, 1) := by decide +kernel
theorem dX6_addReference_63 : decode cX6_addReference 63 = .ok (.iload_n 2, 1) := by decide +kernel
theorem dX6_addReference_64 : decode cX6_addReference 64 = .ok (.invokevirtual 112, 3) := by decide +kernel
theorem dX6_addReference_67 : decode cX6_addReference 67 = .ok (.aload_n 0, 1) := by decide +kernel
theorem dX6_addReference_68 : decode cX6_addReference 68 = .ok (.getfield 19, 3) := by decide +kernel
theorem dX6_addReference_71 : decode cX6_addReference 71 = .ok (.invokevirtual 80, 3) := by decide +kernel
theorem dX6_addReference_74 : decode cX6_addReference 74 = .ok (.aload_n 0, 1) := by decide +kernel
theorem dX6_addReference_75 : decode cX6_addReference 75 = .ok (.getfield 19, 3) := by decide +kernel
theorem dX6_addReference_78 : decode cX6_addReference 78 = .ok (.getfield 109, 3) := by decide +kernel
theorem dX6_addReference_81 : decode cX6_addReference 81 = .ok (.ireturn, 1) := by decide +kernel
theorem dX6_append_0 : decode cX6_append 0 = .ok (.iload_n 1, 1) := by decide +kernel
theorem dX6_append_1 : decode cX6_append 1 = .ok (.ifCond .lt 10, 3) := by decide +kernel
theorem dX6_append_4 : decode cX6_append 4 = .ok (.iload_n 1, 1) := by decide +kernel
theorem dX6_append_5 : decode cX6_append 5 = .ok (.sipush 255, 3) := by decide +kernel
theorem dX6_append_8 : decode cX6_append 8 = .ok (.if_icmp .le 5, 3) := by decide +kernel
theorem dX6_append_11 : decode cX6_append 11 = .ok (.iconst (-1), 1) := by decide +kernel
theorem dX6_append_12 : decode cX6_append 12 = .ok (.ireturn, 1) := by decide +kernel
theorem dX6_append_13 : decode cX6_append 13 = .ok (.aload_n 0, 1) := by decide +kernel
theorem dX6_append_14 : decode cX6_append 14 = .ok (.getfield 12, 3) := by decide +kernel
theorem dX6_append_17 : decode cX6_append 17 = .ok (.getfield 61, 3) := by decide +kernel
theorem dX6_append_20 : decode cX6_append 20 = .ok (.sipush 160, 3) := by decide +kernel
theorem dX6_append_23 : decode cX6_append 23 = .ok (.if_icmp .lt 6, 3) := by decide +kernel
theorem dX6_append_26 : decode cX6_append 26 = .ok (.bipush (-3), 2) := by decide +kernel
theorem dX6_append_28 : decode cX6_append 28 = .ok (.ireturn, 1) := by decide +kernel
theorem dX6_append_29 : decode cX6_append 29 = .ok (.aload_n 0, 1) := by decide +kernel
theorem dX6_append_30 : decode cX6_append 30 = .ok (.getfield 12, 3) := by decide +kernel
theorem dX6_append_33 : decode cX6_append 33 = .ok (.getfield 65, 3) := by decide +kernel
theorem dX6_append_36 : decode cX6_append 36 = .ok (.aload_n 0, 1) := by decide +kernel
theorem dX6_append_37 : decode cX6_append 37 = .ok (.getfield 12, 3) := by decide +kernel
theorem dX6_append_40 : decode cX6_append 40 = .ok (.getfield 61, 3) := by decide +kernel
theorem dX6_append_43 : decode cX6_append 43 = .ok (.iload_n 1, 1) := by decide +kernel
theorem dX6_append_44 : decode cX6_append 44 = .ok (.iastore, 1) := by decide +kernel
theorem dX6_append_45 : decode cX6_append 45 = .ok (.aload_n 0, 1) := by decide +kernel
theorem dX6_append_46 : decode cX6_append 46 = .ok (.getfield 12, 3) := by decide +kernel
theorem dX6_append_49 : decode cX6_append 49 = .ok (.dup, 1) := by decide +kernel
theorem dX6_append_50 : decode cX6_append 50 = .ok (.getfield 61, 3) := by decide +kernel
theorem dX6_append_53 : decode cX6_append 53 = .ok (.iconst 1, 1) := by decide +kernel
theorem dX6_append_54 : decode cX6_append 54 = .ok (.iadd, 1) := by decide +kernel
theorem dX6_append_55 : decode cX6_append 55 = .ok (.putfield 61, 3) := by decide +kernel
theorem dX6_append_58 : decode cX6_append 58 = .ok (.aload_n 0, 1) := by decide +kernel
theorem dX6_append_59 : decode cX6_append 59 = .ok (.getfield 12, 3) := by decide +kernel
theorem dX6_append_62 : decode cX6_append 62 = .ok (.getfield 61, 3) := by decide +kernel
theorem dX6_append_65 : decode cX6_append 65 = .ok (.ireturn, 1) := by decide +kernel
theorem dX6_behaviour_0 : decode cX6_behaviour 0 = .ok (.aload_n 0, 1) := by decide +kernel
theorem dX6_behaviour_1 : decode cX6_behaviour 1 = .ok (.getfield 19, 3) := by decide +kernel
theorem dX6_behaviour_4 : decode cX6_behaviour 4 = .ok (.iload_n 1, 1) := by decide +kernel
theorem dX6_behaviour_5 : decode cX6_behaviour 5 = .ok (.invokevirtual 93, 3) := by decide +kernel
theorem dX6_behaviour_8 : decode cX6_behaviour 8 = .ok (.ifCond .eq 15, 3) := by decide +kernel
theorem dX6_behaviour_11 : decode cX6_behaviour 11 = .ok (.aload_n 0, 1) := by decide +kernel
theorem dX6_behaviour_12 : decode cX6_behaviour 12 = .ok (.getfield 19, 3) := by decide +kernel
theorem dX6_behaviour_15 : decode cX6_behaviour 15 = .ok (.getfield 96, 3) := by decide +kernel
theorem dX6_behaviour_18 : decode cX6_behaviour 18 = .ok (.iload_n 1, 1) := by decide +kernel
theorem dX6_behaviour_19 : decode cX6_behaviour 19 = .ok (.iaload, 1) := by decide +kernel
theorem dX6_behaviour_20 : decode cX6_behaviour 20 = .ok (.goto 4, 3) := by decide +kernel
theorem dX6_behaviour_23 : decode cX6_behaviour 23 = .ok (.iconst (-1), 1) := by decide +kernel
theorem dX6_behaviour_24 : decode cX6_behaviour 24 = .ok (.ireturn, 1) := by decide +kernel
theorem dX6_bit_0 : decode cX6_bit 0 = .ok (.iconst 1, 1) := by decide +kernel
theorem dX6_bit_1 : decode cX6_bit 1 = .ok (.iload_n 0, 1) := by decide +kernel
theorem dX6_bit_2 : decode cX6_bit 2 = .ok (.ishl, 1) := by decide +kernel
theorem dX6_bit_3 : decode cX6_bit 3 = .ok (.ireturn, 1) := by decide +kernel
theorem dX6_clearText_0 : decode cX6_clearText 0 = .ok (.aload_n 0, 1) := by decide +kernel
theorem dX6_clearText_1 : decode cX6_clearText 1 = .ok (.getfield 12, 3) := by decide +kernel
theorem dX6_clearText_4 : decode cX6_clearText 4 = .ok (.getfield 61, 3) := by decide +kernel
theorem dX6_clearText_7 : decode cX6_clearText 7 = .ok (.istore_n 1, 1) := by decide +kernel
theorem dX6_clearText_8 : decode cX6_clearText 8 = .ok (.aload_n 0, 1) := by decide +kernel
theorem dX6_clearText_9 : decode cX6_clearText 9 = .ok (.getfield 12, 3) := by decide +kernel
theorem dX6_clearText_12 : decode cX6_clearText 12 = .ok (.iconst 0, 1) := by decide +kernel
theorem dX6_clearText_13 : decode cX6_clearText 13 = .ok (.putfield 61, 3) := by decide +kernel
theorem dX6_clearText_16 : decode cX6_clearText 16 = .ok (.iload_n 1, 1) := by decide +kernel
theorem dX6_clearText_17 : decode cX6_clearText 17 = .ok (.ireturn, 1) := by decide +kernel
theorem dX6_coarselyMayHold_0 : decode cX6_coarselyMayHold 0 = .ok (.aload_n 0, 1) := by decide +kernel
theorem dX6_coarselyMayHold_1 : decode cX6_coarselyMayHold 1 = .ok (.getfield 19, 3) := by decide +kernel
theorem dX6_coarselyMayHold_4 : decode cX6_coarselyMayHold 4 = .ok (.iload_n 1, 1) := by decide +kernel
theorem dX6_coarselyMayHold_5 : decode cX6_coarselyMayHold 5 = .ok (.iload_n 2, 1) := by decide +kernel
theorem dX6_coarselyMayHold_6 : decode cX6_coarselyMayHold 6 = .ok (.invokevirtual 120, 3) := by decide +kernel
theorem dX6_coarselyMayHold_9 : decode cX6_coarselyMayHold 9 = .ok (.ifCond .ne 5, 3) := by decide +kernel
theorem dX6_coarselyMayHold_12 : decode cX6_coarselyMayHold 12 = .ok (.iconst (-1), 1) := by decide +kernel
theorem dX6_coarselyMayHold_13 : decode cX6_coarselyMayHold 13 = .ok (.ireturn, 1) := by decide +kernel
theorem dX6_coarselyMayHold_14 : decode cX6_coarselyMayHold 14 = .ok (.aload_n 0, 1) := by decide +kernel
theorem dX6_coarselyMayHold_15 : decode cX6_coarselyMayHold 15 = .ok (.invokevirtual 123, 3) := by decide +kernel
theorem dX6_coarselyMayHold_18 : decode cX6_coarselyMayHold 18 = .ok (.aload_n 0, 1) := by decide +kernel
theorem dX6_coarselyMayHold_19 : decode cX6_coarselyMayHold 19 = .ok (.getfield 50, 3) := by decide +kernel
theorem dX6_coarselyMayHold_22 : decode cX6_coarselyMayHold 22 = .ok (.getfield 152, 3) := by decide +kernel
theorem dX6_coarselyMayHold_25 : decode cX6_coarselyMayHold 25 = .ok (.iload_n 1, 1) := by decide +kernel
theorem dX6_coarselyMayHold_26 : decode cX6_coarselyMayHold 26 = .ok (.iaload, 1) := by decide +kernel
theorem dX6_coarselyMayHold_27 : decode cX6_coarselyMayHold 27 = .ok (.iload_n 2, 1) := by decide +kernel
theorem dX6_coarselyMayHold_28 : decode cX6_coarselyMayHold 28 = .ok (.invokestatic 129, 3) := by decide +kernel
theorem dX6_coarselyMayHold_31 : decode cX6_coarselyMayHold 31 = .ok (.ifCond .eq 7, 3) := by decide +kernel
theorem dX6_coarselyMayHold_34 : decode cX6_coarselyMayHold 34 = .ok (.iconst 1, 1) := by decide +kernel
theorem dX6_coarselyMayHold_35 : decode cX6_coarselyMayHold 35 = .ok (.goto 4, 3) := by decide +kernel
theorem dX6_coarselyMayHold_38 : decode cX6_coarselyMayHold 38 = .ok (.iconst 0, 1) := by decide +kernel
theorem dX6_coarselyMayHold_39 : decode cX6_coarselyMayHold 39 = .ok (.ireturn, 1) := by decide +kernel
theorem dX6_contains_0 : decode cX6_contains 0 = .ok (.iload_n 0, 1) := by decide +kernel
theorem dX6_contains_1 : decode cX6_contains 1 = .ok (.iload_n 1, 1) := by decide +kernel
theorem dX6_contains_2 : decode cX6_contains 2 = .ok (.ishr, 1) := by decide +kernel
theorem dX6_contains_3 : decode cX6_contains 3 = .ok (.iconst 1, 1) := by decide +kernel
theorem dX6_contains_4 : decode cX6_contains 4 = .ok (.iand, 1) := by decide +kernel
theorem dX6_contains_5 : decode cX6_contains 5 = .ok (.ifCond .eq 7, 3) := by decide +kernel
theorem dX6_contains_8 : decode cX6_contains 8 = .ok (.iconst 1, 1) := by decide +kernel
theorem dX6_contains_9 : decode cX6_contains 9 = .ok (.goto 4, 3) := by decide +kernel
theorem dX6_contains_12 : decode cX6_contains 12 = .ok (.iconst 0, 1) := by decide +kernel
theorem dX6_contains_13 : decode cX6_contains 13 = .ok (.ireturn, 1) := by decide +kernel
theorem dX6_create_0 : decode cX6_create 0 = .ok (.aload_n 0, 1) := by decide +kernel
theorem dX6_create_1 : decode cX6_create 1 = .ok (.getfield 19, 3) := by decide +kernel
theorem dX6_create_4 : decode cX6_create 4 = .ok (.iload_n 1, 1) := by decide +kernel
theorem dX6_create_5 : decode cX6_create 5 = .ok (.iconst 2, 1) := by decide +kernel
theorem dX6_create_6 : decode cX6_create 6 = .ok (.invokevirtual 180, 3) := by decide +kernel
theorem dX6_create_9 : decode cX6_create 9 = .ok (.ifCond .eq 15, 3) := by decide +kernel
theorem dX6_create_12 : decode cX6_create 12 = .ok (.aload_n 0, 1) := by decide +kernel
theorem dX6_create_13 : decode cX6_create 13 = .ok (.getfield 19, 3) := by decide +kernel
theorem dX6_create_16 : decode cX6_create 16 = .ok (.iload_n 2, 1) := by decide +kernel
theorem dX6_create_17 : decode cX6_create 17 = .ok (.iconst 3, 1) := by decide +kernel
theorem dX6_create_18 : decode cX6_create 18 = .ok (.invokevirtual 198, 3) := by decide +kernel
theorem dX6_create_21 : decode cX6_create 21 = .ok (.ifCond .ne 5, 3) := by decide +kernel
theorem dX6_create_24 : decode cX6_create 24 = .ok (.iconst (-1), 1) := by decide +kernel
theorem dX6_create_25 : decode cX6_create 25 = .ok (.ireturn, 1) := by decide +kernel
theorem dX6_create_26 : decode cX6_create 26 = .ok (.aload_n 0, 1) := by decide +kernel
theorem dX6_create_27 : decode cX6_create 27 = .ok (.getfield 19, 3) := by decide +kernel
theorem dX6_create_30 : decode cX6_create 30 = .ok (.iload_n 1, 1) := by decide +kernel
theorem dX6_create_31 : decode cX6_create 31 = .ok (.iload_n 2, 1) := by decide +kernel
theorem dX6_create_32 : decode cX6_create 32 = .ok (.invokevirtual 183, 3) := by decide +kernel
theorem dX6_create_35 : decode cX6_create 35 = .ok (.ifCond .ne 6, 3) := by decide +kernel
theorem dX6_create_38 : decode cX6_create 38 = .ok (.bipush (-2), 2) := by decide +kernel
theorem dX6_create_40 : decode cX6_create 40 = .ok (.ireturn, 1) := by decide +kernel
theorem dX6_create_41 : decode cX6_create 41 = .ok (.aload_n 0, 1) := by decide +kernel
theorem dX6_create_42 : decode cX6_create 42 = .ok (.invokevirtual 73, 3) := by decide +kernel
theorem dX6_create_45 : decode cX6_create 45 = .ok (.aload_n 0, 1) := by decide +kernel
theorem dX6_create_46 : decode cX6_create 46 = .ok (.getfield 19, 3) := by decide +kernel
theorem dX6_create_49 : decode cX6_create 49 = .ok (.getfield 195, 3) := by decide +kernel
theorem dX6_create_52 : decode cX6_create 52 = .ok (.iload_n 2, 1) := by decide +kernel
theorem dX6_create_53 : decode cX6_create 53 = .ok (.iaload, 1) := by decide +kernel
theorem dX6_create_54 : decode cX6_create 54 = .ok (.istore_n 3, 1) := by decide +kernel
theorem dX6_create_55 : decode cX6_create 55 = .ok (.aload_n 0, 1) := by decide +kernel
theorem dX6_create_56 : decode cX6_create 56 = .ok (.getfield 19, 3) := by decide +kernel
theorem dX6_create_59 : decode cX6_create 59 = .ok (.iload_n 1, 1) := by decide +kernel
theorem dX6_create_60 : decode cX6_create 60 = .ok (.iload_n 3, 1) := by decide +kernel
theorem dX6_create_61 : decode cX6_create 61 = .ok (.invokestatic 186, 3) := by decide +kernel
theorem dX6_create_64 : decode cX6_create 64 = .ok (.invokevirtual 189, 3) := by decide +kernel
theorem dX6_create_67 : decode cX6_create 67 = .ok (.istore 4, 2) := by decide +kernel
theorem dX6_create_69 : decode cX6_create 69 = .ok (.aload_n 0, 1) := by decide +kernel
theorem dX6_create_70 : decode cX6_create 70 = .ok (.getfield 19, 3) := by decide +kernel
theorem dX6_create_73 : decode cX6_create 73 = .ok (.iload_n 3, 1) := by decide +kernel
theorem dX6_create_74 : decode cX6_create 74 = .ok (.aload_n 0, 1) := by decide +kernel
theorem dX6_create_75 : decode cX6_create 75 = .ok (.getfield 19, 3) := by decide +kernel
theorem dX6_create_78 : decode cX6_create 78 = .ok (.getfield 201, 3) := by decide +kernel
theorem dX6_create_81 : decode cX6_create 81 = .ok (.iload_n 2, 1) := by decide +kernel
theorem dX6_create_82 : decode cX6_create 82 = .ok (.iaload, 1) := by decide +kernel
theorem dX6_create_83 : decode cX6_create 83 = .ok (.invokevirtual 189, 3) := by decide +kernel
theorem dX6_create_86 : decode cX6_create 86 = .ok (.istore 5, 2) := by decide +kernel
theorem dX6_create_88 : decode cX6_create 88 = .ok (.iload 4, 2) := by decide +kernel
theorem dX6_create_90 : decode cX6_create 90 = .ok (.iload 5, 2) := by decide +kernel
theorem dX6_create_92 : decode cX6_create 92 = .ok (.iadd, 1) := by decide +kernel
theorem dX6_create_93 : decode cX6_create 93 = .ok (.ireturn, 1) := by decide +kernel
theorem dX6_derivationSize_0 : decode cX6_derivationSize 0 = .ok (.aload_n 0, 1) := by decide +kernel
theorem dX6_derivationSize_1 : decode cX6_derivationSize 1 = .ok (.getfield 19, 3) := by decide +kernel
theorem dX6_derivationSize_4 : decode cX6_derivationSize 4 = .ok (.iload_n 1, 1) := by decide +kernel
theorem dX6_derivationSize_5 : decode cX6_derivationSize 5 = .ok (.iload_n 2, 1) := by decide +kernel
theorem dX6_derivationSize_6 : decode cX6_derivationSize 6 = .ok (.invokevirtual 120, 3) := by decide +kernel
theorem dX6_derivationSize_9 : decode cX6_derivationSize 9 = .ok (.ifCond .ne 5, 3) := by decide +kernel
theorem dX6_derivationSize_12 : decode cX6_derivationSize 12 = .ok (.iconst (-1), 1) := by decide +kernel
theorem dX6_derivationSize_13 : decode cX6_derivationSize 13 = .ok (.ireturn, 1) := by decide +kernel
theorem dX6_derivationSize_14 : decode cX6_derivationSize 14 = .ok (.aload_n 0, 1) := by decide +kernel
theorem dX6_derivationSize_15 : decode cX6_derivationSize 15 = .ok (.invokevirtual 123, 3) := by decide +kernel
theorem dX6_derivationSize_18 : decode cX6_derivationSize 18 = .ok (.aload_n 0, 1) := by decide +kernel
theorem dX6_derivationSize_19 : decode cX6_derivationSize 19 = .ok (.getfield 43, 3) := by decide +kernel
theorem dX6_derivationSize_22 : decode cX6_derivationSize 22 = .ok (.getfield 126, 3) := by decide +kernel
theorem dX6_derivationSize_25 : decode cX6_derivationSize 25 = .ok (.iload_n 1, 1) := by decide +kernel
theorem dX6_derivationSize_26 : decode cX6_derivationSize 26 = .ok (.iaload, 1) := by decide +kernel
theorem dX6_derivationSize_27 : decode cX6_derivationSize 27 = .ok (.iload_n 2, 1) := by decide +kernel
theorem dX6_derivationSize_28 : decode cX6_derivationSize 28 = .ok (.invokestatic 129, 3) := by decide +kernel
theorem dX6_derivationSize_31 : decode cX6_derivationSize 31 = .ok (.ifCond .ne 6, 3) := by decide +kernel
theorem dX6_derivationSize_34 : decode cX6_derivationSize 34 = .ok (.bipush (-9), 2) := by decide +kernel
theorem dX6_derivationSize_36 : decode cX6_derivationSize 36 = .ok (.ireturn, 1) := by decide +kernel
theorem dX6_derivationSize_37 : decode cX6_derivationSize 37 = .ok (.aload_n 0, 1) := by decide +kernel
theorem dX6_derivationSize_38 : decode cX6_derivationSize 38 = .ok (.getfield 43, 3) := by decide +kernel
theorem dX6_derivationSize_41 : decode cX6_derivationSize 41 = .ok (.iload_n 1, 1) := by decide +kernel
theorem dX6_derivationSize_42 : decode cX6_derivationSize 42 = .ok (.iload_n 2, 1) := by decide +kernel
theorem dX6_derivationSize_43 : decode cX6_derivationSize 43 = .ok (.invokestatic 135, 3) := by decide +kernel
theorem dX6_derivationSize_46 : decode cX6_derivationSize 46 = .ok (.invokevirtual 145, 3) := by decide +kernel
theorem dX6_derivationSize_49 : decode cX6_derivationSize 49 = .ok (.ireturn, 1) := by decide +kernel
theorem dX6_findNeeded_0 : decode cX6_findNeeded 0 = .ok (.iconst 0, 1) := by decide +kernel
theorem dX6_findNeeded_1 : decode cX6_findNeeded 1 = .ok (.istore_n 2, 1) := by decide +kernel
theorem dX6_findNeeded_2 : decode cX6_findNeeded 2 = .ok (.iconst 0, 1) := by decide +kernel
theorem dX6_findNeeded_3 : decode cX6_findNeeded 3 = .ok (.istore_n 3, 1) := by decide +kernel
theorem dX6_findNeeded_4 : decode cX6_findNeeded 4 = .ok (.iload_n 3, 1) := by decide +kernel
theorem dX6_findNeeded_5 : decode cX6_findNeeded 5 = .ok (.aload_n 0, 1) := by decide +kernel
theorem dX6_findNeeded_6 : decode cX6_findNeeded 6 = .ok (.getfield 19, 3) := by decide +kernel
theorem dX6_findNeeded_9 : decode cX6_findNeeded 9 = .ok (.getfield 109, 3) := by decide +kernel
theorem dX6_findNeeded_12 : decode cX6_findNeeded 12 = .ok (.if_icmp .ge 31, 3) := by decide +kernel
theorem dX6_findNeeded_15 : decode cX6_findNeeded 15 = .ok (.aload_n 0, 1) := by decide +kernel
theorem dX6_findNeeded_16 : decode cX6_findNeeded 16 = .ok (.iload_n 1, 1) := by decide +kernel
theorem dX6_findNeeded_17 : decode cX6_findNeeded 17 = .ok (.iload_n 3, 1) := by decide +kernel
theorem dX6_findNeeded_18 : decode cX6_findNeeded 18 = .ok (.invokestatic 186, 3) := by decide +kernel
theorem dX6_findNeeded_21 : decode cX6_findNeeded 21 = .ok (.iconst (-1), 1) := by decide +kernel
theorem dX6_findNeeded_22 : decode cX6_findNeeded 22 = .ok (.ixor, 1) := by decide +kernel
theorem dX6_findNeeded_23 : decode cX6_findNeeded 23 = .ok (.iand, 1) := by decide +kernel
theorem dX6_findNeeded_24 : decode cX6_findNeeded 24 = .ok (.invokevirtual 177, 3) := by decide +kernel
theorem dX6_findNeeded_27 : decode cX6_findNeeded 27 = .ok (.ifCond .ne 10, 3) := by decide +kernel
theorem dX6_findNeeded_30 : decode cX6_findNeeded 30 = .ok (.iload_n 2, 1) := by decide +kernel
theorem dX6_findNeeded_31 : decode cX6_findNeeded 31 = .ok (.iload_n 3, 1) := by decide +kernel
theorem dX6_findNeeded_32 : decode cX6_findNeeded 32 = .ok (.invokestatic 186, 3) := by decide +kernel
theorem dX6_findNeeded_35 : decode cX6_findNeeded 35 = .ok (.ior, 1) := by decide +kernel
theorem dX6_findNeeded_36 : decode cX6_findNeeded 36 = .ok (.istore_n 2, 1) := by decide +kernel
theorem dX6_findNeeded_37 : decode cX6_findNeeded 37 = .ok (.iinc 3 1, 3) := by decide +kernel
theorem dX6_findNeeded_40 : decode cX6_findNeeded 40 = .ok (.goto (-36), 3) := by decide +kernel
theorem dX6_findNeeded_43 : decode cX6_findNeeded 43 = .ok (.iload_n 2, 1) := by decide +kernel
theorem dX6_findNeeded_44 : decode cX6_findNeeded 44 = .ok (.ireturn, 1) := by decide +kernel
theorem dX6_forbid_0 : decode cX6_forbid 0 = .ok (.aload_n 0, 1) := by decide +kernel
theorem dX6_forbid_1 : decode cX6_forbid 1 = .ok (.getfield 19, 3) := by decide +kernel
theorem dX6_forbid_4 : decode cX6_forbid 4 = .ok (.iload_n 1, 1) := by decide +kernel
theorem dX6_forbid_5 : decode cX6_forbid 5 = .ok (.iload_n 2, 1) := by decide +kernel
theorem dX6_forbid_6 : decode cX6_forbid 6 = .ok (.invokevirtual 120, 3) := by decide +kernel
theorem dX6_forbid_9 : decode cX6_forbid 9 = .ok (.ifCond .ne 5, 3) := by decide +kernel
theorem dX6_forbid_12 : decode cX6_forbid 12 = .ok (.iconst (-1), 1) := by decide +kernel
theorem dX6_forbid_13 : decode cX6_forbid 13 = .ok (.ireturn, 1) := by decide +kernel
theorem dX6_forbid_14 : decode cX6_forbid 14 = .ok (.aload_n 0, 1) := by decide +kernel
theorem dX6_forbid_15 : decode cX6_forbid 15 = .ok (.getfield 19, 3) := by decide +kernel
theorem dX6_forbid_18 : decode cX6_forbid 18 = .ok (.iload_n 1, 1) := by decide +kernel
theorem dX6_forbid_19 : decode cX6_forbid 19 = .ok (.iload_n 2, 1) := by decide +kernel
theorem dX6_forbid_20 : decode cX6_forbid 20 = .ok (.invokevirtual 153, 3) := by decide +kernel
theorem dX6_forbid_23 : decode cX6_forbid 23 = .ok (.iconst (-1), 1) := by decide +kernel
theorem dX6_forbid_24 : decode cX6_forbid 24 = .ok (.if_icmp .eq 6, 3) := by decide +kernel
theorem dX6_forbid_27 : decode cX6_forbid 27 = .ok (.bipush (-2), 2) := by decide +kernel
theorem dX6_forbid_29 : decode cX6_forbid 29 = .ok (.ireturn, 1) := by decide +kernel
theorem dX6_forbid_30 : decode cX6_forbid 30 = .ok (.aload_n 0, 1) := by decide +kernel
theorem dX6_forbid_31 : decode cX6_forbid 31 = .ok (.getfield 19, 3) := by decide +kernel
theorem dX6_forbid_34 : decode cX6_forbid 34 = .ok (.getfield 156, 3) := by decide +kernel
theorem dX6_forbid_37 : decode cX6_forbid 37 = .ok (.iconst 4, 1) := by decide +kernel
theorem dX6_forbid_38 : decode cX6_forbid 38 = .ok (.if_icmp .lt 6, 3) := by decide +kernel
theorem dX6_forbid_41 : decode cX6_forbid 41 = .ok (.bipush (-3), 2) := by decide +kernel
theorem dX6_forbid_43 : decode cX6_forbid 43 = .ok (.ireturn, 1) := by decide +kernel
theorem dX6_forbid_44 : decode cX6_forbid 44 = .ok (.aload_n 0, 1) := by decide +kernel
theorem dX6_forbid_45 : decode cX6_forbid 45 = .ok (.invokevirtual 73, 3) := by decide +kernel
theorem dX6_forbid_48 : decode cX6_forbid 48 = .ok (.aload_n 0, 1) := by decide +kernel
theorem dX6_forbid_49 : decode cX6_forbid 49 = .ok (.getfield 19, 3) := by decide +kernel
theorem dX6_forbid_52 : decode cX6_forbid 52 = .ok (.iload_n 1, 1) := by decide +kernel
theorem dX6_forbid_53 : decode cX6_forbid 53 = .ok (.iload_n 2, 1) := by decide +kernel
theorem dX6_forbid_54 : decode cX6_forbid 54 = .ok (.invokevirtual 159, 3) := by decide +kernel
theorem dX6_forbid_57 : decode cX6_forbid 57 = .ok (.aload_n 0, 1) := by decide +kernel
theorem dX6_forbid_58 : decode cX6_forbid 58 = .ok (.getfield 19, 3) := by decide +kernel
theorem dX6_forbid_61 : decode cX6_forbid 61 = .ok (.getfield 156, 3) := by decide +kernel
theorem dX6_forbid_64 : decode cX6_forbid 64 = .ok (.ireturn, 1) := by decide +kernel
theorem dX6_give_0 : decode cX6_give 0 = .ok (.aload_n 0, 1) := by decide +kernel
theorem dX6_give_1 : decode cX6_give 1 = .ok (.getfield 19, 3) := by decide +kernel
theorem dX6_give_4 : decode cX6_give 4 = .ok (.iload_n 1, 1) := by decide +kernel
theorem dX6_give_5 : decode cX6_give 5 = .ok (.iconst 1, 1) := by decide +kernel
theorem dX6_give_6 : decode cX6_give 6 = .ok (.invokevirtual 180, 3) := by decide +kernel
theorem dX6_give_9 : decode cX6_give 9 = .ok (.ifCond .eq 26, 3) := by decide +kernel
theorem dX6_give_12 : decode cX6_give 12 = .ok (.aload_n 0, 1) := by decide +kernel
theorem dX6_give_13 : decode cX6_give 13 = .ok (.getfield 19, 3) := by decide +kernel
theorem dX6_give_16 : decode cX6_give 16 = .ok (.iload_n 2, 1) := by decide +kernel
theorem dX6_give_17 : decode cX6_give 17 = .ok (.iconst 4, 1) := by decide +kernel
theorem dX6_give_18 : decode cX6_give 18 = .ok (.invokevirtual 180, 3) := by decide +kernel
theorem dX6_give_21 : decode cX6_give 21 = .ok (.ifCond .eq 14, 3) := by decide +kernel
theorem dX6_give_24 : decode cX6_give 24 = .ok (.aload_n 0, 1) := by decide +kernel
theorem dX6_give_25 : decode cX6_give 25 = .ok (.getfield 19, 3) := by decide +kernel
theorem dX6_give_28 : decode cX6_give 28 = .ok (.iload_n 3, 1) := by decide +kernel
theorem dX6_give_29 : decode cX6_give 29 = .ok (.invokevirtual 86, 3) := by decide +kernel
theorem dX6_give_32 : decode cX6_give 32 = .ok (.ifCond .ne 5, 3) := by decide +kernel
theorem dX6_give_35 : decode cX6_give 35 = .ok (.iconst (-1), 1) := by decide +kernel
theorem dX6_give_36 : decode cX6_give 36 = .ok (.ireturn, 1) := by decide +kernel
theorem dX6_give_37 : decode cX6_give 37 = .ok (.aload_n 0, 1) := by decide +kernel
theorem dX6_give_38 : decode cX6_give 38 = .ok (.getfield 19, 3) := by decide +kernel
theorem dX6_give_41 : decode cX6_give 41 = .ok (.iload_n 1, 1) := by decide +kernel
theorem dX6_give_42 : decode cX6_give 42 = .ok (.iload_n 2, 1) := by decide +kernel
theorem dX6_give_43 : decode cX6_give 43 = .ok (.invokevirtual 183, 3) := by decide +kernel
theorem dX6_give_46 : decode cX6_give 46 = .ok (.ifCond .eq 20, 3) := by decide +kernel
theorem dX6_give_49 : decode cX6_give 49 = .ok (.iload_n 3, 1) := by decide +kernel
theorem dX6_give_50 : decode cX6_give 50 = .ok (.iload_n 1, 1) := by decide +kernel
theorem dX6_give_51 : decode cX6_give 51 = .ok (.if_icmp .eq 18, 3) := by decide +kernel
theorem dX6_give_54 : decode cX6_give 54 = .ok (.aload_n 0, 1) := by decide +kernel
theorem dX6_give_55 : decode cX6_give 55 = .ok (.getfield 19, 3) := by decide +kernel
theorem dX6_give_58 : decode cX6_give 58 = .ok (.iload_n 1, 1) := by decide +kernel
theorem dX6_give_59 : decode cX6_give 59 = .ok (.iload_n 3, 1) := by decide +kernel
theorem dX6_give_60 : decode cX6_give 60 = .ok (.invokevirtual 183, 3) := by decide +kernel
theorem dX6_give_63 : decode cX6_give 63 = .ok (.ifCond .ne 6, 3) := by decide +kernel
theorem dX6_give_66 : decode cX6_give 66 = .ok (.bipush (-2), 2) := by decide +kernel
theorem dX6_give_68 : decode cX6_give 68 = .ok (.ireturn, 1) := by decide +kernel
theorem dX6_give_69 : decode cX6_give 69 = .ok (.aload_n 0, 1) := by decide +kernel
theorem dX6_give_70 : decode cX6_give 70 = .ok (.invokevirtual 73, 3) := by decide +kernel
theorem dX6_give_73 : decode cX6_give 73 = .ok (.aload_n 0, 1) := by decide +kernel
theorem dX6_give_74 : decode cX6_give 74 = .ok (.getfield 19, 3) := by decide +kernel
theorem dX6_give_77 : decode cX6_give 77 = .ok (.iload_n 2, 1) := by decide +kernel
theorem dX6_give_78 : decode cX6_give 78 = .ok (.iload_n 3, 1) := by decide +kernel
theorem dX6_give_79 : decode cX6_give 79 = .ok (.invokestatic 186, 3) := by decide +kernel
theorem dX6_give_82 : decode cX6_give 82 = .ok (.invokevirtual 189, 3) := by decide +kernel
theorem dX6_give_85 : decode cX6_give 85 = .ok (.ireturn, 1) := by decide +kernel
theorem dX6_holdsInRun_0 : decode cX6_holdsInRun 0 = .ok (.aload_n 0, 1) := by decide +kernel
theorem dX6_holdsInRun_1 : decode cX6_holdsInRun 1 = .ok (.getfield 19, 3) := by decide +kernel
theorem dX6_holdsInRun_4 : decode cX6_holdsInRun 4 = .ok (.iload_n 1, 1) := by decide +kernel
theorem dX6_holdsInRun_5 : decode cX6_holdsInRun 5 = .ok (.iload_n 2, 1) := by decide +kernel
theorem dX6_holdsInRun_6 : decode cX6_holdsInRun 6 = .ok (.invokevirtual 120, 3) := by decide +kernel
theorem dX6_holdsInRun_9 : decode cX6_holdsInRun 9 = .ok (.ifCond .ne 5, 3) := by decide +kernel
theorem dX6_holdsInRun_12 : decode cX6_holdsInRun 12 = .ok (.iconst (-1), 1) := by decide +kernel
theorem dX6_holdsInRun_13 : decode cX6_holdsInRun 13 = .ok (.ireturn, 1) := by decide +kernel
theorem dX6_holdsInRun_14 : decode cX6_holdsInRun 14 = .ok (.aload_n 0, 1) := by decide +kernel
theorem dX6_holdsInRun_15 : decode cX6_holdsInRun 15 = .ok (.getfield 19, 3) := by decide +kernel
theorem dX6_holdsInRun_18 : decode cX6_holdsInRun 18 = .ok (.iload_n 1, 1) := by decide +kernel
theorem dX6_holdsInRun_19 : decode cX6_holdsInRun 19 = .ok (.iload_n 2, 1) := by decide +kernel
theorem dX6_holdsInRun_20 : decode cX6_holdsInRun 20 = .ok (.invokevirtual 183, 3) := by decide +kernel
theorem dX6_holdsInRun_23 : decode cX6_holdsInRun 23 = .ok (.ifCond .eq 7, 3) := by decide +kernel
theorem dX6_holdsInRun_26 : decode cX6_holdsInRun 26 = .ok (.iconst 1, 1) := by decide +kernel
theorem dX6_holdsInRun_27 : decode cX6_holdsInRun 27 = .ok (.goto 4, 3) := by decide +kernel
theorem dX6_holdsInRun_30 : decode cX6_holdsInRun 30 = .ok (.iconst 0, 1) := by decide +kernel
theorem dX6_holdsInRun_31 : decode cX6_holdsInRun 31 = .ok (.ireturn, 1) := by decide +kernel
theorem dX6_init_0 : decode cX6_init 0 = .ok (.aload_n 0, 1) := by decide +kernel
theorem dX6_init_1 : decode cX6_init 1 = .ok (.invokespecial 3, 3) := by decide +kernel
theorem dX6_init_4 : decode cX6_init 4 = .ok (.aload_n 0, 1) := by decide +kernel
theorem dX6_init_5 : decode cX6_init 5 = .ok (.new 9, 3) := by decide +kernel
theorem dX6_init_8 : decode cX6_init 8 = .ok (.dup, 1) := by decide +kernel
theorem dX6_init_9 : decode cX6_init 9 = .ok (.invokespecial 11, 3) := by decide +kernel
theorem dX6_init_12 : decode cX6_init 12 = .ok (.putfield 12, 3) := by decide +kernel
theorem dX6_init_15 : decode cX6_init 15 = .ok (.aload_n 0, 1) := by decide +kernel
theorem dX6_init_16 : decode cX6_init 16 = .ok (.new 16, 3) := by decide +kernel
theorem dX6_init_19 : decode cX6_init 19 = .ok (.dup, 1) := by decide +kernel
theorem dX6_init_20 : decode cX6_init 20 = .ok (.invokespecial 18, 3) := by decide +kernel
theorem dX6_init_23 : decode cX6_init 23 = .ok (.putfield 19, 3) := by decide +kernel
theorem dX6_init_26 : decode cX6_init 26 = .ok (.aload_n 0, 1) := by decide +kernel
theorem dX6_init_27 : decode cX6_init 27 = .ok (.new 16, 3) := by decide +kernel
theorem dX6_init_30 : decode cX6_init 30 = .ok (.dup, 1) := by decide +kernel
theorem dX6_init_31 : decode cX6_init 31 = .ok (.invokespecial 18, 3) := by decide +kernel
theorem dX6_init_34 : decode cX6_init 34 = .ok (.putfield 23, 3) := by decide +kernel
theorem dX6_init_37 : decode cX6_init 37 = .ok (.aload_n 0, 1) := by decide +kernel
theorem dX6_init_38 : decode cX6_init 38 = .ok (.new 26, 3) := by decide +kernel
theorem dX6_init_41 : decode cX6_init 41 = .ok (.dup, 1) := by decide +kernel
theorem dX6_init_42 : decode cX6_init 42 = .ok (.invokespecial 28, 3) := by decide +kernel
theorem dX6_init_45 : decode cX6_init 45 = .ok (.putfield 29, 3) := by decide +kernel
theorem dX6_init_48 : decode cX6_init 48 = .ok (.aload_n 0, 1) := by decide +kernel
theorem dX6_init_49 : decode cX6_init 49 = .ok (.new 33, 3) := by decide +kernel
theorem dX6_init_52 : decode cX6_init 52 = .ok (.dup, 1) := by decide +kernel
theorem dX6_init_53 : decode cX6_init 53 = .ok (.invokespecial 35, 3) := by decide +kernel
theorem dX6_init_56 : decode cX6_init 56 = .ok (.putfield 36, 3) := by decide +kernel
theorem dX6_init_59 : decode cX6_init 59 = .ok (.aload_n 0, 1) := by decide +kernel
theorem dX6_init_60 : decode cX6_init 60 = .ok (.new 40, 3) := by decide +kernel
theorem dX6_init_63 : decode cX6_init 63 = .ok (.dup, 1) := by decide +kernel
theorem dX6_init_64 : decode cX6_init 64 = .ok (.invokespecial 42, 3) := by decide +kernel
theorem dX6_init_67 : decode cX6_init 67 = .ok (.putfield 43, 3) := by decide +kernel
theorem dX6_init_70 : decode cX6_init 70 = .ok (.aload_n 0, 1) := by decide +kernel
theorem dX6_init_71 : decode cX6_init 71 = .ok (.new 47, 3) := by decide +kernel
theorem dX6_init_74 : decode cX6_init 74 = .ok (.dup, 1) := by decide +kernel
theorem dX6_init_75 : decode cX6_init 75 = .ok (.invokespecial 49, 3) := by decide +kernel
theorem dX6_init_78 : decode cX6_init 78 = .ok (.putfield 50, 3) := by decide +kernel
theorem dX6_init_81 : decode cX6_init 81 = .ok (.aload_n 0, 1) := by decide +kernel
theorem dX6_init_82 : decode cX6_init 82 = .ok (.new 47, 3) := by decide +kernel
theorem dX6_init_85 : decode cX6_init 85 = .ok (.dup, 1) := by decide +kernel
theorem dX6_init_86 : decode cX6_init 86 = .ok (.invokespecial 49, 3) := by decide +kernel
theorem dX6_init_89 : decode cX6_init 89 = .ok (.putfield 54, 3) := by decide +kernel
theorem dX6_init_92 : decode cX6_init 92 = .ok (.aload_n 0, 1) := by decide +kernel
theorem dX6_init_93 : decode cX6_init 93 = .ok (.iconst 0, 1) := by decide +kernel
theorem dX6_init_94 : decode cX6_init 94 = .ok (.putfield 57, 3) := by decide +kernel
theorem dX6_init_97 : decode cX6_init 97 = .ok (.return_, 1) := by decide +kernel
theorem dX6_isRepair_0 : decode cX6_isRepair 0 = .ok (.aload_n 0, 1) := by decide +kernel
theorem dX6_isRepair_1 : decode cX6_isRepair 1 = .ok (.getfield 54, 3) := by decide +kernel
theorem dX6_isRepair_4 : decode cX6_isRepair 4 = .ok (.aload_n 0, 1) := by decide +kernel
theorem dX6_isRepair_5 : decode cX6_isRepair 5 = .ok (.getfield 19, 3) := by decide +kernel
theorem dX6_isRepair_8 : decode cX6_isRepair 8 = .ok (.iload_n 1, 1) := by decide +kernel
theorem dX6_isRepair_9 : decode cX6_isRepair 9 = .ok (.invokevirtual 224, 3) := by decide +kernel
theorem dX6_isRepair_12 : decode cX6_isRepair 12 = .ok (.aload_n 0, 1) := by decide +kernel
theorem dX6_isRepair_13 : decode cX6_isRepair 13 = .ok (.getfield 54, 3) := by decide +kernel
theorem dX6_isRepair_16 : decode cX6_isRepair 16 = .ok (.aload_n 0, 1) := by decide +kernel
theorem dX6_isRepair_17 : decode cX6_isRepair 17 = .ok (.getfield 36, 3) := by decide +kernel
theorem dX6_isRepair_20 : decode cX6_isRepair 20 = .ok (.iconst 0, 1) := by decide +kernel
theorem dX6_isRepair_21 : decode cX6_isRepair 21 = .ok (.invokevirtual 228, 3) := by decide +kernel
theorem dX6_isRepair_24 : decode cX6_isRepair 24 = .ok (.aload_n 0, 1) := by decide +kernel
theorem dX6_isRepair_25 : decode cX6_isRepair 25 = .ok (.getfield 19, 3) := by decide +kernel
theorem dX6_isRepair_28 : decode cX6_isRepair 28 = .ok (.aload_n 0, 1) := by decide +kernel
theorem dX6_isRepair_29 : decode cX6_isRepair 29 = .ok (.getfield 54, 3) := by decide +kernel
theorem dX6_isRepair_32 : decode cX6_isRepair 32 = .ok (.getfield 152, 3) := by decide +kernel
theorem dX6_isRepair_35 : decode cX6_isRepair 35 = .ok (.invokevirtual 165, 3) := by decide +kernel
theorem dX6_isRepair_38 : decode cX6_isRepair 38 = .ok (.ifCond .ne 7, 3) := by decide +kernel
theorem dX6_isRepair_41 : decode cX6_isRepair 41 = .ok (.iconst 1, 1) := by decide +kernel
theorem dX6_isRepair_42 : decode cX6_isRepair 42 = .ok (.goto 4, 3) := by decide +kernel
theorem dX6_isRepair_45 : decode cX6_isRepair 45 = .ok (.iconst 0, 1) := by decide +kernel
theorem dX6_isRepair_46 : decode cX6_isRepair 46 = .ok (.ireturn, 1) := by decide +kernel
theorem dX6_kind_0 : decode cX6_kind 0 = .ok (.aload_n 0, 1) := by decide +kernel
theorem dX6_kind_1 : decode cX6_kind 1 = .ok (.getfield 19, 3) := by decide +kernel
theorem dX6_kind_4 : decode cX6_kind 4 = .ok (.iload_n 1, 1) := by decide +kernel
theorem dX6_kind_5 : decode cX6_kind 5 = .ok (.invokevirtual 86, 3) := by decide +kernel
theorem dX6_kind_8 : decode cX6_kind 8 = .ok (.ifCond .eq 15, 3) := by decide +kernel
theorem dX6_kind_11 : decode cX6_kind 11 = .ok (.aload_n 0, 1) := by decide +kernel
theorem dX6_kind_12 : decode cX6_kind 12 = .ok (.getfield 19, 3) := by decide +kernel
theorem dX6_kind_15 : decode cX6_kind 15 = .ok (.getfield 90, 3) := by decide +kernel
theorem dX6_kind_18 : decode cX6_kind 18 = .ok (.iload_n 1, 1) := by decide +kernel
theorem dX6_kind_19 : decode cX6_kind 19 = .ok (.iaload, 1) := by decide +kernel
theorem dX6_kind_20 : decode cX6_kind 20 = .ok (.goto 4, 3) := by decide +kernel
theorem dX6_kind_23 : decode cX6_kind 23 = .ok (.iconst (-1), 1) := by decide +kernel
theorem dX6_kind_24 : decode cX6_kind 24 = .ok (.ireturn, 1) := by decide +kernel
theorem dX6_lastRound_0 : decode cX6_lastRound 0 = .ok (.aload_n 0, 1) := by decide +kernel
theorem dX6_lastRound_1 : decode cX6_lastRound 1 = .ok (.invokevirtual 123, 3) := by decide +kernel
theorem dX6_lastRound_4 : decode cX6_lastRound 4 = .ok (.aload_n 0, 1) := by decide +kernel
theorem dX6_lastRound_5 : decode cX6_lastRound 5 = .ok (.getfield 43, 3) := by decide +kernel
theorem dX6_lastRound_8 : decode cX6_lastRound 8 = .ok (.getfield 149, 3) := by decide +kernel
theorem dX6_lastRound_11 : decode cX6_lastRound 11 = .ok (.ireturn, 1) := by decide +kernel
theorem dX6_load_0 : decode cX6_load 0 = .ok (.aload_n 0, 1) := by decide +kernel
theorem dX6_load_1 : decode cX6_load 1 = .ok (.getfield 12, 3) := by decide +kernel
theorem dX6_load_4 : decode cX6_load 4 = .ok (.aload_n 0, 1) := by decide +kernel
theorem dX6_load_5 : decode cX6_load 5 = .ok (.getfield 23, 3) := by decide +kernel
theorem dX6_load_8 : decode cX6_load 8 = .ok (.invokevirtual 69, 3) := by decide +kernel
theorem dX6_load_11 : decode cX6_load 11 = .ok (.istore_n 1, 1) := by decide +kernel
theorem dX6_load_12 : decode cX6_load 12 = .ok (.iload_n 1, 1) := by decide +kernel
theorem dX6_load_13 : decode cX6_load 13 = .ok (.iconst (-1), 1) := by decide +kernel
theorem dX6_load_14 : decode cX6_load 14 = .ok (.if_icmp .eq 8, 3) := by decide +kernel
theorem dX6_load_17 : decode cX6_load 17 = .ok (.bipush (-10), 2) := by decide +kernel
theorem dX6_load_19 : decode cX6_load 19 = .ok (.iload_n 1, 1) := by decide +kernel
theorem dX6_load_20 : decode cX6_load 20 = .ok (.isub, 1) := by decide +kernel
theorem dX6_load_21 : decode cX6_load 21 = .ok (.ireturn, 1) := by decide +kernel
theorem dX6_load_22 : decode cX6_load 22 = .ok (.aload_n 0, 1) := by decide +kernel
theorem dX6_load_23 : decode cX6_load 23 = .ok (.invokevirtual 73, 3) := by decide +kernel
theorem dX6_load_26 : decode cX6_load 26 = .ok (.aload_n 0, 1) := by decide +kernel
theorem dX6_load_27 : decode cX6_load 27 = .ok (.getfield 19, 3) := by decide +kernel
theorem dX6_load_30 : decode cX6_load 30 = .ok (.aload_n 0, 1) := by decide +kernel
theorem dX6_load_31 : decode cX6_load 31 = .ok (.getfield 23, 3) := by decide +kernel
theorem dX6_load_34 : decode cX6_load 34 = .ok (.invokevirtual 76, 3) := by decide +kernel
theorem dX6_load_37 : decode cX6_load 37 = .ok (.aload_n 0, 1) := by decide +kernel
theorem dX6_load_38 : decode cX6_load 38 = .ok (.getfield 19, 3) := by decide +kernel
theorem dX6_load_41 : decode cX6_load 41 = .ok (.invokevirtual 80, 3) := by decide +kernel
theorem dX6_load_44 : decode cX6_load 44 = .ok (.aload_n 0, 1) := by decide +kernel
theorem dX6_load_45 : decode cX6_load 45 = .ok (.getfield 12, 3) := by decide +kernel
theorem dX6_load_48 : decode cX6_load 48 = .ok (.iconst 0, 1) := by decide +kernel
theorem dX6_load_49 : decode cX6_load 49 = .ok (.putfield 61, 3) := by decide +kernel
theorem dX6_load_52 : decode cX6_load 52 = .ok (.aload_n 0, 1) := by decide +kernel
theorem dX6_load_53 : decode cX6_load 53 = .ok (.getfield 19, 3) := by decide +kernel
theorem dX6_load_56 : decode cX6_load 56 = .ok (.getfield 83, 3) := by decide +kernel
theorem dX6_load_59 : decode cX6_load 59 = .ok (.ireturn, 1) := by decide +kernel
theorem dX6_lowest_0 : decode cX6_lowest 0 = .ok (.iconst 0, 1) := by decide +kernel
theorem dX6_lowest_1 : decode cX6_lowest 1 = .ok (.istore_n 1, 1) := by decide +kernel
theorem dX6_lowest_2 : decode cX6_lowest 2 = .ok (.iload_n 1, 1) := by decide +kernel
theorem dX6_lowest_3 : decode cX6_lowest 3 = .ok (.bipush 10, 2) := by decide +kernel
theorem dX6_lowest_5 : decode cX6_lowest 5 = .ok (.if_icmp .ge 19, 3) := by decide +kernel
theorem dX6_lowest_8 : decode cX6_lowest 8 = .ok (.iload_n 0, 1) := by decide +kernel
theorem dX6_lowest_9 : decode cX6_lowest 9 = .ok (.iload_n 1, 1) := by decide +kernel
theorem dX6_lowest_10 : decode cX6_lowest 10 = .ok (.invokestatic 129, 3) := by decide +kernel
theorem dX6_lowest_13 : decode cX6_lowest 13 = .ok (.ifCond .eq 5, 3) := by decide +kernel
theorem dX6_lowest_16 : decode cX6_lowest 16 = .ok (.iload_n 1, 1) := by decide +kernel
theorem dX6_lowest_17 : decode cX6_lowest 17 = .ok (.ireturn, 1) := by decide +kernel
theorem dX6_lowest_18 : decode cX6_lowest 18 = .ok (.iinc 1 1, 3) := by decide +kernel
theorem dX6_lowest_21 : decode cX6_lowest 21 = .ok (.goto (-19), 3) := by decide +kernel
theorem dX6_lowest_24 : decode cX6_lowest 24 = .ok (.iconst (-1), 1) := by decide +kernel
theorem dX6_lowest_25 : decode cX6_lowest 25 = .ok (.ireturn, 1) := by decide +kernel
theorem dX6_mayHold_0 : decode cX6_mayHold 0 = .ok (.aload_n 0, 1) := by decide +kernel
theorem dX6_mayHold_1 : decode cX6_mayHold 1 = .ok (.getfield 19, 3) := by decide +kernel
theorem dX6_mayHold_4 : decode cX6_mayHold 4 = .ok (.iload_n 1, 1) := by decide +kernel
theorem dX6_mayHold_5 : decode cX6_mayHold 5 = .ok (.iload_n 2, 1) := by decide +kernel
theorem dX6_mayHold_6 : decode cX6_mayHold 6 = .ok (.invokevirtual 120, 3) := by decide +kernel
theorem dX6_mayHold_9 : decode cX6_mayHold 9 = .ok (.ifCond .ne 5, 3) := by decide +kernel
theorem dX6_mayHold_12 : decode cX6_mayHold 12 = .ok (.iconst (-1), 1) := by decide +kernel
theorem dX6_mayHold_13 : decode cX6_mayHold 13 = .ok (.ireturn, 1) := by decide +kernel
theorem dX6_mayHold_14 : decode cX6_mayHold 14 = .ok (.aload_n 0, 1) := by decide +kernel
theorem dX6_mayHold_15 : decode cX6_mayHold 15 = .ok (.invokevirtual 123, 3) := by decide +kernel
theorem dX6_mayHold_18 : decode cX6_mayHold 18 = .ok (.aload_n 0, 1) := by decide +kernel
theorem dX6_mayHold_19 : decode cX6_mayHold 19 = .ok (.getfield 43, 3) := by decide +kernel
theorem dX6_mayHold_22 : decode cX6_mayHold 22 = .ok (.getfield 126, 3) := by decide +kernel
theorem dX6_mayHold_25 : decode cX6_mayHold 25 = .ok (.iload_n 1, 1) := by decide +kernel
theorem dX6_mayHold_26 : decode cX6_mayHold 26 = .ok (.iaload, 1) := by decide +kernel
theorem dX6_mayHold_27 : decode cX6_mayHold 27 = .ok (.iload_n 2, 1) := by decide +kernel
theorem dX6_mayHold_28 : decode cX6_mayHold 28 = .ok (.invokestatic 129, 3) := by decide +kernel
theorem dX6_mayHold_31 : decode cX6_mayHold 31 = .ok (.ifCond .eq 7, 3) := by decide +kernel
theorem dX6_mayHold_34 : decode cX6_mayHold 34 = .ok (.iconst 1, 1) := by decide +kernel
theorem dX6_mayHold_35 : decode cX6_mayHold 35 = .ok (.goto 4, 3) := by decide +kernel
theorem dX6_mayHold_38 : decode cX6_mayHold 38 = .ok (.iconst 0, 1) := by decide +kernel
theorem dX6_mayHold_39 : decode cX6_mayHold 39 = .ok (.ireturn, 1) := by decide +kernel
theorem dX6_objectCount_0 : decode cX6_objectCount 0 = .ok (.aload_n 0, 1) := by decide +kernel
theorem dX6_objectCount_1 : decode cX6_objectCount 1 = .ok (.getfield 19, 3) := by decide +kernel
theorem dX6_objectCount_4 : decode cX6_objectCount 4 = .ok (.getfield 83, 3) := by decide +kernel
theorem dX6_objectCount_7 : decode cX6_objectCount 7 = .ok (.ireturn, 1) := by decide +kernel
theorem dX6_open_0 : decode cX6_open 0 = .ok (.aload_n 0, 1) := by decide +kernel
theorem dX6_open_1 : decode cX6_open 1 = .ok (.getfield 19, 3) := by decide +kernel
theorem dX6_open_4 : decode cX6_open 4 = .ok (.iload_n 1, 1) := by decide +kernel
theorem dX6_open_5 : decode cX6_open 5 = .ok (.iconst 2, 1) := by decide +kernel
theorem dX6_open_6 : decode cX6_open 6 = .ok (.invokevirtual 180, 3) := by decide +kernel
theorem dX6_open_9 : decode cX6_open 9 = .ok (.ifCond .eq 15, 3) := by decide +kernel
theorem dX6_open_12 : decode cX6_open 12 = .ok (.aload_n 0, 1) := by decide +kernel
theorem dX6_open_13 : decode cX6_open 13 = .ok (.getfield 19, 3) := by decide +kernel
theorem dX6_open_16 : decode cX6_open 16 = .ok (.iload_n 3, 1) := by decide +kernel
theorem dX6_open_17 : decode cX6_open 17 = .ok (.iload_n 2, 1) := by decide +kernel
theorem dX6_open_18 : decode cX6_open 18 = .ok (.invokevirtual 192, 3) := by decide +kernel
theorem dX6_open_21 : decode cX6_open 21 = .ok (.ifCond .ne 5, 3) := by decide +kernel
theorem dX6_open_24 : decode cX6_open 24 = .ok (.iconst (-1), 1) := by decide +kernel
theorem dX6_open_25 : decode cX6_open 25 = .ok (.ireturn, 1) := by decide +kernel
theorem dX6_open_26 : decode cX6_open 26 = .ok (.aload_n 0, 1) := by decide +kernel
theorem dX6_open_27 : decode cX6_open 27 = .ok (.getfield 19, 3) := by decide +kernel
theorem dX6_open_30 : decode cX6_open 30 = .ok (.iload_n 1, 1) := by decide +kernel
theorem dX6_open_31 : decode cX6_open 31 = .ok (.iload_n 2, 1) := by decide +kernel
theorem dX6_open_32 : decode cX6_open 32 = .ok (.invokevirtual 183, 3) := by decide +kernel
theorem dX6_open_35 : decode cX6_open 35 = .ok (.ifCond .eq 15, 3) := by decide +kernel
theorem dX6_open_38 : decode cX6_open 38 = .ok (.aload_n 0, 1) := by decide +kernel
theorem dX6_open_39 : decode cX6_open 39 = .ok (.getfield 19, 3) := by decide +kernel
theorem dX6_open_42 : decode cX6_open 42 = .ok (.iload_n 1, 1) := by decide +kernel
theorem dX6_open_43 : decode cX6_open 43 = .ok (.iload_n 3, 1) := by decide +kernel
theorem dX6_open_44 : decode cX6_open 44 = .ok (.invokevirtual 183, 3) := by decide +kernel
theorem dX6_open_47 : decode cX6_open 47 = .ok (.ifCond .ne 6, 3) := by decide +kernel
theorem dX6_open_50 : decode cX6_open 50 = .ok (.bipush (-2), 2) := by decide +kernel
theorem dX6_open_52 : decode cX6_open 52 = .ok (.ireturn, 1) := by decide +kernel
theorem dX6_open_53 : decode cX6_open 53 = .ok (.aload_n 0, 1) := by decide +kernel
theorem dX6_open_54 : decode cX6_open 54 = .ok (.invokevirtual 73, 3) := by decide +kernel
theorem dX6_open_57 : decode cX6_open 57 = .ok (.aload_n 0, 1) := by decide +kernel
theorem dX6_open_58 : decode cX6_open 58 = .ok (.getfield 19, 3) := by decide +kernel
theorem dX6_open_61 : decode cX6_open 61 = .ok (.iload_n 1, 1) := by decide +kernel
theorem dX6_open_62 : decode cX6_open 62 = .ok (.aload_n 0, 1) := by decide +kernel
theorem dX6_open_63 : decode cX6_open 63 = .ok (.getfield 19, 3) := by decide +kernel
theorem dX6_open_66 : decode cX6_open 66 = .ok (.getfield 195, 3) := by decide +kernel
theorem dX6_open_69 : decode cX6_open 69 = .ok (.iload_n 2, 1) := by decide +kernel
theorem dX6_open_70 : decode cX6_open 70 = .ok (.iaload, 1) := by decide +kernel
theorem dX6_open_71 : decode cX6_open 71 = .ok (.invokestatic 186, 3) := by decide +kernel
theorem dX6_open_74 : decode cX6_open 74 = .ok (.invokevirtual 189, 3) := by decide +kernel
theorem dX6_open_77 : decode cX6_open 77 = .ok (.ireturn, 1) := by decide +kernel
theorem dX6_pair_0 : decode cX6_pair 0 = .ok (.iload_n 0, 1) := by decide +kernel
theorem dX6_pair_1 : decode cX6_pair 1 = .ok (.bipush 10, 2) := by decide +kernel
theorem dX6_pair_3 : decode cX6_pair 3 = .ok (.imul, 1) := by decide +kernel
theorem dX6_pair_4 : decode cX6_pair 4 = .ok (.iload_n 1, 1) := by decide +kernel
theorem dX6_pair_5 : decode cX6_pair 5 = .ok (.iadd, 1) := by decide +kernel
theorem dX6_pair_6 : decode cX6_pair 6 = .ok (.ireturn, 1) := by decide +kernel
theorem dX6_partner_0 : decode cX6_partner 0 = .ok (.aload_n 0, 1) := by decide +kernel
theorem dX6_partner_1 : decode cX6_partner 1 = .ok (.getfield 19, 3) := by decide +kernel
theorem dX6_partner_4 : decode cX6_partner 4 = .ok (.iload_n 1, 1) := by decide +kernel
theorem dX6_partner_5 : decode cX6_partner 5 = .ok (.iload_n 2, 1) := by decide +kernel
theorem dX6_partner_6 : decode cX6_partner 6 = .ok (.invokevirtual 120, 3) := by decide +kernel
theorem dX6_partner_9 : decode cX6_partner 9 = .ok (.ifCond .ne 5, 3) := by decide +kernel
theorem dX6_partner_12 : decode cX6_partner 12 = .ok (.iconst (-1), 1) := by decide +kernel
theorem dX6_partner_13 : decode cX6_partner 13 = .ok (.ireturn, 1) := by decide +kernel
theorem dX6_partner_14 : decode cX6_partner 14 = .ok (.aload_n 0, 1) := by decide +kernel
theorem dX6_partner_15 : decode cX6_partner 15 = .ok (.invokevirtual 123, 3) := by decide +kernel
theorem dX6_partner_18 : decode cX6_partner 18 = .ok (.aload_n 0, 1) := by decide +kernel
theorem dX6_partner_19 : decode cX6_partner 19 = .ok (.getfield 43, 3) := by decide +kernel
theorem dX6_partner_22 : decode cX6_partner 22 = .ok (.getfield 142, 3) := by decide +kernel
theorem dX6_partner_25 : decode cX6_partner 25 = .ok (.iload_n 1, 1) := by decide +kernel
theorem dX6_partner_26 : decode cX6_partner 26 = .ok (.iload_n 2, 1) := by decide +kernel
theorem dX6_partner_27 : decode cX6_partner 27 = .ok (.invokestatic 135, 3) := by decide +kernel
theorem dX6_partner_30 : decode cX6_partner 30 = .ok (.iaload, 1) := by decide +kernel
theorem dX6_partner_31 : decode cX6_partner 31 = .ok (.ireturn, 1) := by decide +kernel
theorem dX6_permit_0 : decode cX6_permit 0 = .ok (.aload_n 0, 1) := by decide +kernel
theorem dX6_permit_1 : decode cX6_permit 1 = .ok (.getfield 19, 3) := by decide +kernel
theorem dX6_permit_4 : decode cX6_permit 4 = .ok (.iload_n 1, 1) := by decide +kernel
theorem dX6_permit_5 : decode cX6_permit 5 = .ok (.iload_n 2, 1) := by decide +kernel
theorem dX6_permit_6 : decode cX6_permit 6 = .ok (.invokevirtual 120, 3) := by decide +kernel
theorem dX6_permit_9 : decode cX6_permit 9 = .ok (.ifCond .ne 5, 3) := by decide +kernel
theorem dX6_permit_12 : decode cX6_permit 12 = .ok (.iconst (-1), 1) := by decide +kernel
theorem dX6_permit_13 : decode cX6_permit 13 = .ok (.ireturn, 1) := by decide +kernel
theorem dX6_permit_14 : decode cX6_permit 14 = .ok (.aload_n 0, 1) := by decide +kernel
theorem dX6_permit_15 : decode cX6_permit 15 = .ok (.getfield 19, 3) := by decide +kernel
theorem dX6_permit_18 : decode cX6_permit 18 = .ok (.iload_n 1, 1) := by decide +kernel
theorem dX6_permit_19 : decode cX6_permit 19 = .ok (.iload_n 2, 1) := by decide +kernel
theorem dX6_permit_20 : decode cX6_permit 20 = .ok (.invokevirtual 153, 3) := by decide +kernel
theorem dX6_permit_23 : decode cX6_permit 23 = .ok (.istore_n 3, 1) := by decide +kernel
theorem dX6_permit_24 : decode cX6_permit 24 = .ok (.iload_n 3, 1) := by decide +kernel
theorem dX6_permit_25 : decode cX6_permit 25 = .ok (.iconst (-1), 1) := by decide +kernel
theorem dX6_permit_26 : decode cX6_permit 26 = .ok (.if_icmp .ne 6, 3) := by decide +kernel
theorem dX6_permit_29 : decode cX6_permit 29 = .ok (.bipush (-2), 2) := by decide +kernel
theorem dX6_permit_31 : decode cX6_permit 31 = .ok (.ireturn, 1) := by decide +kernel
theorem dX6_permit_32 : decode cX6_permit 32 = .ok (.aload_n 0, 1) := by decide +kernel
theorem dX6_permit_33 : decode cX6_permit 33 = .ok (.invokevirtual 73, 3) := by decide +kernel
theorem dX6_permit_36 : decode cX6_permit 36 = .ok (.aload_n 0, 1) := by decide +kernel
theorem dX6_permit_37 : decode cX6_permit 37 = .ok (.getfield 19, 3) := by decide +kernel
theorem dX6_permit_40 : decode cX6_permit 40 = .ok (.iload_n 3, 1) := by decide +kernel
theorem dX6_permit_41 : decode cX6_permit 41 = .ok (.invokevirtual 162, 3) := by decide +kernel
theorem dX6_permit_44 : decode cX6_permit 44 = .ok (.aload_n 0, 1) := by decide +kernel
theorem dX6_permit_45 : decode cX6_permit 45 = .ok (.getfield 19, 3) := by decide +kernel
theorem dX6_permit_48 : decode cX6_permit 48 = .ok (.getfield 156, 3) := by decide +kernel
theorem dX6_permit_51 : decode cX6_permit 51 = .ok (.ireturn, 1) := by decide +kernel
theorem dX6_referenceCount_0 : decode cX6_referenceCount 0 = .ok (.aload_n 0, 1) := by decide +kernel
theorem dX6_referenceCount_1 : decode cX6_referenceCount 1 = .ok (.getfield 19, 3) := by decide +kernel
theorem dX6_referenceCount_4 : decode cX6_referenceCount 4 = .ok (.getfield 109, 3) := by decide +kernel
theorem dX6_referenceCount_7 : decode cX6_referenceCount 7 = .ok (.ireturn, 1) := by decide +kernel
theorem dX6_refreshAnalysis_0 : decode cX6_refreshAnalysis 0 = .ok (.aload_n 0, 1) := by decide +kernel
theorem dX6_refreshAnalysis_1 : decode cX6_refreshAnalysis 1 = .ok (.getfield 57, 3) := by decide +kernel
theorem dX6_refreshAnalysis_4 : decode cX6_refreshAnalysis 4 = .ok (.ifCond .eq 4, 3) := by decide +kernel
theorem dX6_refreshAnalysis_7 : decode cX6_refreshAnalysis 7 = .ok (.return_, 1) := by decide +kernel
theorem dX6_refreshAnalysis_8 : decode cX6_refreshAnalysis 8 = .ok (.aload_n 0, 1) := by decide +kernel
theorem dX6_refreshAnalysis_9 : decode cX6_refreshAnalysis 9 = .ok (.getfield 36, 3) := by decide +kernel
theorem dX6_refreshAnalysis_12 : decode cX6_refreshAnalysis 12 = .ok (.aload_n 0, 1) := by decide +kernel
theorem dX6_refreshAnalysis_13 : decode cX6_refreshAnalysis 13 = .ok (.getfield 19, 3) := by decide +kernel
theorem dX6_refreshAnalysis_16 : decode cX6_refreshAnalysis 16 = .ok (.invokevirtual 217, 3) := by decide +kernel
theorem dX6_refreshAnalysis_19 : decode cX6_refreshAnalysis 19 = .ok (.aload_n 0, 1) := by decide +kernel
theorem dX6_refreshAnalysis_20 : decode cX6_refreshAnalysis 20 = .ok (.getfield 43, 3) := by decide +kernel
theorem dX6_refreshAnalysis_23 : decode cX6_refreshAnalysis 23 = .ok (.aload_n 0, 1) := by decide +kernel
theorem dX6_refreshAnalysis_24 : decode cX6_refreshAnalysis 24 = .ok (.getfield 36, 3) := by decide +kernel
theorem dX6_refreshAnalysis_27 : decode cX6_refreshAnalysis 27 = .ok (.aload_n 0, 1) := by decide +kernel
theorem dX6_refreshAnalysis_28 : decode cX6_refreshAnalysis 28 = .ok (.getfield 19, 3) := by decide +kernel
theorem dX6_refreshAnalysis_31 : decode cX6_refreshAnalysis 31 = .ok (.invokevirtual 220, 3) := by decide +kernel
theorem dX6_refreshAnalysis_34 : decode cX6_refreshAnalysis 34 = .ok (.aload_n 0, 1) := by decide +kernel
theorem dX6_refreshAnalysis_35 : decode cX6_refreshAnalysis 35 = .ok (.getfield 50, 3) := by decide +kernel
theorem dX6_refreshAnalysis_38 : decode cX6_refreshAnalysis 38 = .ok (.aload_n 0, 1) := by decide +kernel
theorem dX6_refreshAnalysis_39 : decode cX6_refreshAnalysis 39 = .ok (.getfield 19, 3) := by decide +kernel
theorem dX6_refreshAnalysis_42 : decode cX6_refreshAnalysis 42 = .ok (.iconst 0, 1) := by decide +kernel
theorem dX6_refreshAnalysis_43 : decode cX6_refreshAnalysis 43 = .ok (.invokevirtual 224, 3) := by decide +kernel
theorem dX6_refreshAnalysis_46 : decode cX6_refreshAnalysis 46 = .ok (.aload_n 0, 1) := by decide +kernel
theorem dX6_refreshAnalysis_47 : decode cX6_refreshAnalysis 47 = .ok (.getfield 50, 3) := by decide +kernel
theorem dX6_refreshAnalysis_50 : decode cX6_refreshAnalysis 50 = .ok (.aload_n 0, 1) := by decide +kernel
theorem dX6_refreshAnalysis_51 : decode cX6_refreshAnalysis 51 = .ok (.getfield 36, 3) := by decide +kernel
theorem dX6_refreshAnalysis_54 : decode cX6_refreshAnalysis 54 = .ok (.iconst 1, 1) := by decide +kernel
theorem dX6_refreshAnalysis_55 : decode cX6_refreshAnalysis 55 = .ok (.invokevirtual 228, 3) := by decide +kernel
theorem dX6_refreshAnalysis_58 : decode cX6_refreshAnalysis 58 = .ok (.aload_n 0, 1) := by decide +kernel
theorem dX6_refreshAnalysis_59 : decode cX6_refreshAnalysis 59 = .ok (.iconst 1, 1) := by decide +kernel
theorem dX6_refreshAnalysis_60 : decode cX6_refreshAnalysis 60 = .ok (.putfield 57, 3) := by decide +kernel
theorem dX6_refreshAnalysis_63 : decode cX6_refreshAnalysis 63 = .ok (.return_, 1) := by decide +kernel
theorem dX6_removeReference_0 : decode cX6_removeReference 0 = .ok (.iload_n 1, 1) := by decide +kernel
theorem dX6_removeReference_1 : decode cX6_removeReference 1 = .ok (.ifCond .lt 14, 3) := by decide +kernel
theorem dX6_removeReference_4 : decode cX6_removeReference 4 = .ok (.iload_n 1, 1) := by decide +kernel
theorem dX6_removeReference_5 : decode cX6_removeReference 5 = .ok (.aload_n 0, 1) := by decide +kernel
theorem dX6_removeReference_6 : decode cX6_removeReference 6 = .ok (.getfield 19, 3) := by decide +kernel
theorem dX6_removeReference_9 : decode cX6_removeReference 9 = .ok (.getfield 109, 3) := by decide +kernel
theorem dX6_removeReference_12 : decode cX6_removeReference 12 = .ok (.if_icmp .lt 5, 3) := by decide +kernel
theorem dX6_removeReference_15 : decode cX6_removeReference 15 = .ok (.iconst (-1), 1) := by decide +kernel
theorem dX6_removeReference_16 : decode cX6_removeReference 16 = .ok (.ireturn, 1) := by decide +kernel
theorem dX6_removeReference_17 : decode cX6_removeReference 17 = .ok (.aload_n 0, 1) := by decide +kernel
theorem dX6_removeReference_18 : decode cX6_removeReference 18 = .ok (.invokevirtual 73, 3) := by decide +kernel
theorem dX6_removeReference_21 : decode cX6_removeReference 21 = .ok (.aload_n 0, 1) := by decide +kernel
theorem dX6_removeReference_22 : decode cX6_removeReference 22 = .ok (.getfield 19, 3) := by decide +kernel
theorem dX6_removeReference_25 : decode cX6_removeReference 25 = .ok (.iload_n 1, 1) := by decide +kernel
theorem dX6_removeReference_26 : decode cX6_removeReference 26 = .ok (.invokevirtual 116, 3) := by decide +kernel
theorem dX6_removeReference_29 : decode cX6_removeReference 29 = .ok (.aload_n 0, 1) := by decide +kernel
theorem dX6_removeReference_30 : decode cX6_removeReference 30 = .ok (.getfield 19, 3) := by decide +kernel
theorem dX6_removeReference_33 : decode cX6_removeReference 33 = .ok (.invokevirtual 80, 3) := by decide +kernel
theorem dX6_removeReference_36 : decode cX6_removeReference 36 = .ok (.aload_n 0, 1) := by decide +kernel
theorem dX6_removeReference_37 : decode cX6_removeReference 37 = .ok (.getfield 19, 3) := by decide +kernel
theorem dX6_removeReference_40 : decode cX6_removeReference 40 = .ok (.getfield 109, 3) := by decide +kernel
theorem dX6_removeReference_43 : decode cX6_removeReference 43 = .ok (.ireturn, 1) := by decide +kernel
theorem dX6_restartRun_0 : decode cX6_restartRun 0 = .ok (.aload_n 0, 1) := by decide +kernel
theorem dX6_restartRun_1 : decode cX6_restartRun 1 = .ok (.getfield 19, 3) := by decide +kernel
theorem dX6_restartRun_4 : decode cX6_restartRun 4 = .ok (.invokevirtual 204, 3) := by decide +kernel
theorem dX6_restartRun_7 : decode cX6_restartRun 7 = .ok (.istore_n 1, 1) := by decide +kernel
theorem dX6_restartRun_8 : decode cX6_restartRun 8 = .ok (.aload_n 0, 1) := by decide +kernel
theorem dX6_restartRun_9 : decode cX6_restartRun 9 = .ok (.invokevirtual 73, 3) := by decide +kernel
theorem dX6_restartRun_12 : decode cX6_restartRun 12 = .ok (.aload_n 0, 1) := by decide +kernel
theorem dX6_restartRun_13 : decode cX6_restartRun 13 = .ok (.getfield 19, 3) := by decide +kernel
theorem dX6_restartRun_16 : decode cX6_restartRun 16 = .ok (.invokevirtual 80, 3) := by decide +kernel
theorem dX6_restartRun_19 : decode cX6_restartRun 19 = .ok (.iload_n 1, 1) := by decide +kernel
theorem dX6_restartRun_20 : decode cX6_restartRun 20 = .ok (.ireturn, 1) := by decide +kernel
theorem dX6_round_0 : decode cX6_round 0 = .ok (.aload_n 0, 1) := by decide +kernel
theorem dX6_round_1 : decode cX6_round 1 = .ok (.getfield 19, 3) := by decide +kernel
theorem dX6_round_4 : decode cX6_round 4 = .ok (.iload_n 1, 1) := by decide +kernel
theorem dX6_round_5 : decode cX6_round 5 = .ok (.iload_n 2, 1) := by decide +kernel
theorem dX6_round_6 : decode cX6_round 6 = .ok (.invokevirtual 120, 3) := by decide +kernel
theorem dX6_round_9 : decode cX6_round 9 = .ok (.ifCond .ne 5, 3) := by decide +kernel
theorem dX6_round_12 : decode cX6_round 12 = .ok (.iconst (-1), 1) := by decide +kernel
theorem dX6_round_13 : decode cX6_round 13 = .ok (.ireturn, 1) := by decide +kernel
theorem dX6_round_14 : decode cX6_round 14 = .ok (.aload_n 0, 1) := by decide +kernel
theorem dX6_round_15 : decode cX6_round 15 = .ok (.invokevirtual 123, 3) := by decide +kernel
theorem dX6_round_18 : decode cX6_round 18 = .ok (.aload_n 0, 1) := by decide +kernel
theorem dX6_round_19 : decode cX6_round 19 = .ok (.getfield 43, 3) := by decide +kernel
theorem dX6_round_22 : decode cX6_round 22 = .ok (.getfield 132, 3) := by decide +kernel
theorem dX6_round_25 : decode cX6_round 25 = .ok (.iload_n 1, 1) := by decide +kernel
theorem dX6_round_26 : decode cX6_round 26 = .ok (.iload_n 2, 1) := by decide +kernel
theorem dX6_round_27 : decode cX6_round 27 = .ok (.invokestatic 135, 3) := by decide +kernel
theorem dX6_round_30 : decode cX6_round 30 = .ok (.iaload, 1) := by decide +kernel
theorem dX6_round_31 : decode cX6_round 31 = .ok (.ireturn, 1) := by decide +kernel
theorem dX6_rule_0 : decode cX6_rule 0 = .ok (.aload_n 0, 1) := by decide +kernel
theorem dX6_rule_1 : decode cX6_rule 1 = .ok (.getfield 19, 3) := by decide +kernel
theorem dX6_rule_4 : decode cX6_rule 4 = .ok (.iload_n 1, 1) := by decide +kernel
theorem dX6_rule_5 : decode cX6_rule 5 = .ok (.iload_n 2, 1) := by decide +kernel
theorem dX6_rule_6 : decode cX6_rule 6 = .ok (.invokevirtual 120, 3) := by decide +kernel
theorem dX6_rule_9 : decode cX6_rule 9 = .ok (.ifCond .ne 5, 3) := by decide +kernel
theorem dX6_rule_12 : decode cX6_rule 12 = .ok (.iconst (-1), 1) := by decide +kernel
theorem dX6_rule_13 : decode cX6_rule 13 = .ok (.ireturn, 1) := by decide +kernel
theorem dX6_rule_14 : decode cX6_rule 14 = .ok (.aload_n 0, 1) := by decide +kernel
theorem dX6_rule_15 : decode cX6_rule 15 = .ok (.invokevirtual 123, 3) := by decide +kernel
theorem dX6_rule_18 : decode cX6_rule 18 = .ok (.aload_n 0, 1) := by decide +kernel
theorem dX6_rule_19 : decode cX6_rule 19 = .ok (.getfield 43, 3) := by decide +kernel
theorem dX6_rule_22 : decode cX6_rule 22 = .ok (.getfield 139, 3) := by decide +kernel
theorem dX6_rule_25 : decode cX6_rule 25 = .ok (.iload_n 1, 1) := by decide +kernel
theorem dX6_rule_26 : decode cX6_rule 26 = .ok (.iload_n 2, 1) := by decide +kernel
theorem dX6_rule_27 : decode cX6_rule 27 = .ok (.invokestatic 135, 3) := by decide +kernel
theorem dX6_rule_30 : decode cX6_rule 30 = .ok (.iaload, 1) := by decide +kernel
theorem dX6_rule_31 : decode cX6_rule 31 = .ok (.ireturn, 1) := by decide +kernel
theorem dX6_saveState_0 : decode cX6_saveState 0 = .ok (.aload_n 0, 1) := by decide +kernel
theorem dX6_saveState_1 : decode cX6_saveState 1 = .ok (.getfield 29, 3) := by decide +kernel
theorem dX6_saveState_4 : decode cX6_saveState 4 = .ok (.aload_n 0, 1) := by decide +kernel
theorem dX6_saveState_5 : decode cX6_saveState 5 = .ok (.getfield 19, 3) := by decide +kernel
theorem dX6_saveState_8 : decode cX6_saveState 8 = .ok (.invokevirtual 214, 3) := by decide +kernel
theorem dX6_saveState_11 : decode cX6_saveState 11 = .ok (.aload_n 0, 1) := by decide +kernel
theorem dX6_saveState_12 : decode cX6_saveState 12 = .ok (.iconst 0, 1) := by decide +kernel
theorem dX6_saveState_13 : decode cX6_saveState 13 = .ok (.putfield 57, 3) := by decide +kernel
theorem dX6_saveState_16 : decode cX6_saveState 16 = .ok (.return_, 1) := by decide +kernel
theorem dX6_setBehaviour_0 : decode cX6_setBehaviour 0 = .ok (.aload_n 0, 1) := by decide +kernel
theorem dX6_setBehaviour_1 : decode cX6_setBehaviour 1 = .ok (.getfield 19, 3) := by decide +kernel
theorem dX6_setBehaviour_4 : decode cX6_setBehaviour 4 = .ok (.iload_n 1, 1) := by decide +kernel
theorem dX6_setBehaviour_5 : decode cX6_setBehaviour 5 = .ok (.invokevirtual 93, 3) := by decide +kernel
theorem dX6_setBehaviour_8 : decode cX6_setBehaviour 8 = .ok (.ifCond .eq 13, 3) := by decide +kernel
theorem dX6_setBehaviour_11 : decode cX6_setBehaviour 11 = .ok (.iload_n 2, 1) := by decide +kernel
theorem dX6_setBehaviour_12 : decode cX6_setBehaviour 12 = .ok (.ifCond .lt 9, 3) := by decide +kernel
theorem dX6_setBehaviour_15 : decode cX6_setBehaviour 15 = .ok (.iload_n 2, 1) := by decide +kernel
theorem dX6_setBehaviour_16 : decode cX6_setBehaviour 16 = .ok (.bipush 16, 2) := by decide +kernel
theorem dX6_setBehaviour_18 : decode cX6_setBehaviour 18 = .ok (.if_icmp .lt 5, 3) := by decide +kernel
theorem dX6_setBehaviour_21 : decode cX6_setBehaviour 21 = .ok (.iconst (-1), 1) := by decide +kernel
theorem dX6_setBehaviour_22 : decode cX6_setBehaviour 22 = .ok (.ireturn, 1) := by decide +kernel
theorem dX6_setBehaviour_23 : decode cX6_setBehaviour 23 = .ok (.aload_n 0, 1) := by decide +kernel
theorem dX6_setBehaviour_24 : decode cX6_setBehaviour 24 = .ok (.getfield 19, 3) := by decide +kernel
theorem dX6_setBehaviour_27 : decode cX6_setBehaviour 27 = .ok (.getfield 96, 3) := by decide +kernel
theorem dX6_setBehaviour_30 : decode cX6_setBehaviour 30 = .ok (.iload_n 1, 1) := by decide +kernel
theorem dX6_setBehaviour_31 : decode cX6_setBehaviour 31 = .ok (.iaload, 1) := by decide +kernel
theorem dX6_setBehaviour_32 : decode cX6_setBehaviour 32 = .ok (.istore_n 3, 1) := by decide +kernel
theorem dX6_setBehaviour_33 : decode cX6_setBehaviour 33 = .ok (.iload_n 3, 1) := by decide +kernel
theorem dX6_setBehaviour_34 : decode cX6_setBehaviour 34 = .ok (.iload_n 2, 1) := by decide +kernel
theorem dX6_setBehaviour_35 : decode cX6_setBehaviour 35 = .ok (.if_icmp .ne 6, 3) := by decide +kernel
theorem dX6_setBehaviour_38 : decode cX6_setBehaviour 38 = .ok (.bipush (-2), 2) := by decide +kernel
theorem dX6_setBehaviour_40 : decode cX6_setBehaviour 40 = .ok (.ireturn, 1) := by decide +kernel
theorem dX6_setBehaviour_41 : decode cX6_setBehaviour 41 = .ok (.aload_n 0, 1) := by decide +kernel
theorem dX6_setBehaviour_42 : decode cX6_setBehaviour 42 = .ok (.invokevirtual 73, 3) := by decide +kernel
theorem dX6_setBehaviour_45 : decode cX6_setBehaviour 45 = .ok (.aload_n 0, 1) := by decide +kernel
theorem dX6_setBehaviour_46 : decode cX6_setBehaviour 46 = .ok (.getfield 19, 3) := by decide +kernel
theorem dX6_setBehaviour_49 : decode cX6_setBehaviour 49 = .ok (.getfield 96, 3) := by decide +kernel
theorem dX6_setBehaviour_52 : decode cX6_setBehaviour 52 = .ok (.iload_n 1, 1) := by decide +kernel
theorem dX6_setBehaviour_53 : decode cX6_setBehaviour 53 = .ok (.iload_n 2, 1) := by decide +kernel
theorem dX6_setBehaviour_54 : decode cX6_setBehaviour 54 = .ok (.iastore, 1) := by decide +kernel
theorem dX6_setBehaviour_55 : decode cX6_setBehaviour 55 = .ok (.aload_n 0, 1) := by decide +kernel
theorem dX6_setBehaviour_56 : decode cX6_setBehaviour 56 = .ok (.getfield 19, 3) := by decide +kernel
theorem dX6_setBehaviour_59 : decode cX6_setBehaviour 59 = .ok (.invokevirtual 80, 3) := by decide +kernel
theorem dX6_setBehaviour_62 : decode cX6_setBehaviour 62 = .ok (.iload_n 3, 1) := by decide +kernel
theorem dX6_setBehaviour_63 : decode cX6_setBehaviour 63 = .ok (.ireturn, 1) := by decide +kernel
theorem dX6_setGroup_0 : decode cX6_setGroup 0 = .ok (.aload_n 0, 1) := by decide +kernel
theorem dX6_setGroup_1 : decode cX6_setGroup 1 = .ok (.getfield 19, 3) := by decide +kernel
theorem dX6_setGroup_4 : decode cX6_setGroup 4 = .ok (.iload_n 1, 1) := by decide +kernel
theorem dX6_setGroup_5 : decode cX6_setGroup 5 = .ok (.invokevirtual 86, 3) := by decide +kernel
theorem dX6_setGroup_8 : decode cX6_setGroup 8 = .ok (.ifCond .eq 13, 3) := by decide +kernel
theorem dX6_setGroup_11 : decode cX6_setGroup 11 = .ok (.iload_n 2, 1) := by decide +kernel
theorem dX6_setGroup_12 : decode cX6_setGroup 12 = .ok (.ifCond .lt 9, 3) := by decide +kernel
theorem dX6_setGroup_15 : decode cX6_setGroup 15 = .ok (.iload_n 2, 1) := by decide +kernel
theorem dX6_setGroup_16 : decode cX6_setGroup 16 = .ok (.bipush 6, 2) := by decide +kernel
theorem dX6_setGroup_18 : decode cX6_setGroup 18 = .ok (.if_icmp .lt 5, 3) := by decide +kernel
theorem dX6_setGroup_21 : decode cX6_setGroup 21 = .ok (.iconst (-1), 1) := by decide +kernel
theorem dX6_setGroup_22 : decode cX6_setGroup 22 = .ok (.ireturn, 1) := by decide +kernel
theorem dX6_setGroup_23 : decode cX6_setGroup 23 = .ok (.aload_n 0, 1) := by decide +kernel
theorem dX6_setGroup_24 : decode cX6_setGroup 24 = .ok (.getfield 19, 3) := by decide +kernel
theorem dX6_setGroup_27 : decode cX6_setGroup 27 = .ok (.getfield 99, 3) := by decide +kernel
theorem dX6_setGroup_30 : decode cX6_setGroup 30 = .ok (.iload_n 1, 1) := by decide +kernel
theorem dX6_setGroup_31 : decode cX6_setGroup 31 = .ok (.iaload, 1) := by decide +kernel
theorem dX6_setGroup_32 : decode cX6_setGroup 32 = .ok (.istore_n 3, 1) := by decide +kernel
theorem dX6_setGroup_33 : decode cX6_setGroup 33 = .ok (.iload_n 3, 1) := by decide +kernel
theorem dX6_setGroup_34 : decode cX6_setGroup 34 = .ok (.iload_n 2, 1) := by decide +kernel
theorem dX6_setGroup_35 : decode cX6_setGroup 35 = .ok (.if_icmp .ne 6, 3) := by decide +kernel
theorem dX6_setGroup_38 : decode cX6_setGroup 38 = .ok (.bipush (-2), 2) := by decide +kernel
theorem dX6_setGroup_40 : decode cX6_setGroup 40 = .ok (.ireturn, 1) := by decide +kernel
theorem dX6_setGroup_41 : decode cX6_setGroup 41 = .ok (.aload_n 0, 1) := by decide +kernel
theorem dX6_setGroup_42 : decode cX6_setGroup 42 = .ok (.invokevirtual 73, 3) := by decide +kernel
theorem dX6_setGroup_45 : decode cX6_setGroup 45 = .ok (.aload_n 0, 1) := by decide +kernel
theorem dX6_setGroup_46 : decode cX6_setGroup 46 = .ok (.getfield 19, 3) := by decide +kernel
theorem dX6_setGroup_49 : decode cX6_setGroup 49 = .ok (.getfield 99, 3) := by decide +kernel
theorem dX6_setGroup_52 : decode cX6_setGroup 52 = .ok (.iload_n 1, 1) := by decide +kernel
theorem dX6_setGroup_53 : decode cX6_setGroup 53 = .ok (.iload_n 2, 1) := by decide +kernel
theorem dX6_setGroup_54 : decode cX6_setGroup 54 = .ok (.iastore, 1) := by decide +kernel
theorem dX6_setGroup_55 : decode cX6_setGroup 55 = .ok (.aload_n 0, 1) := by decide +kernel
theorem dX6_setGroup_56 : decode cX6_setGroup 56 = .ok (.getfield 19, 3) := by decide +kernel
theorem dX6_setGroup_59 : decode cX6_setGroup 59 = .ok (.invokevirtual 80, 3) := by decide +kernel
theorem dX6_setGroup_62 : decode cX6_setGroup 62 = .ok (.iload_n 3, 1) := by decide +kernel
theorem dX6_setGroup_63 : decode cX6_setGroup 63 = .ok (.ireturn, 1) := by decide +kernel
theorem dX6_smallestRepair_0 : decode cX6_smallestRepair 0 = .ok (.aload_n 0, 1) := by decide +kernel
theorem dX6_smallestRepair_1 : decode cX6_smallestRepair 1 = .ok (.invokevirtual 123, 3) := by decide +kernel
theorem dX6_smallestRepair_4 : decode cX6_smallestRepair 4 = .ok (.iconst 1, 1) := by decide +kernel
theorem dX6_smallestRepair_5 : decode cX6_smallestRepair 5 = .ok (.aload_n 0, 1) := by decide +kernel
theorem dX6_smallestRepair_6 : decode cX6_smallestRepair 6 = .ok (.getfield 19, 3) := by decide +kernel
theorem dX6_smallestRepair_9 : decode cX6_smallestRepair 9 = .ok (.getfield 109, 3) := by decide +kernel
theorem dX6_smallestRepair_12 : decode cX6_smallestRepair 12 = .ok (.ishl, 1) := by decide +kernel
theorem dX6_smallestRepair_13 : decode cX6_smallestRepair 13 = .ok (.iconst 1, 1) := by decide +kernel
theorem dX6_smallestRepair_14 : decode cX6_smallestRepair 14 = .ok (.isub, 1) := by decide +kernel
theorem dX6_smallestRepair_15 : decode cX6_smallestRepair 15 = .ok (.istore_n 1, 1) := by decide +kernel
theorem dX6_smallestRepair_16 : decode cX6_smallestRepair 16 = .ok (.aload_n 0, 1) := by decide +kernel
theorem dX6_smallestRepair_17 : decode cX6_smallestRepair 17 = .ok (.iload_n 1, 1) := by decide +kernel
theorem dX6_smallestRepair_18 : decode cX6_smallestRepair 18 = .ok (.invokevirtual 169, 3) := by decide +kernel
theorem dX6_smallestRepair_21 : decode cX6_smallestRepair 21 = .ok (.istore_n 2, 1) := by decide +kernel
theorem dX6_smallestRepair_22 : decode cX6_smallestRepair 22 = .ok (.iconst 0, 1) := by decide +kernel
theorem dX6_smallestRepair_23 : decode cX6_smallestRepair 23 = .ok (.istore_n 3, 1) := by decide +kernel
theorem dX6_smallestRepair_24 : decode cX6_smallestRepair 24 = .ok (.iload_n 3, 1) := by decide +kernel
theorem dX6_smallestRepair_25 : decode cX6_smallestRepair 25 = .ok (.aload_n 0, 1) := by decide +kernel
theorem dX6_smallestRepair_26 : decode cX6_smallestRepair 26 = .ok (.getfield 19, 3) := by decide +kernel
theorem dX6_smallestRepair_29 : decode cX6_smallestRepair 29 = .ok (.getfield 109, 3) := by decide +kernel
theorem dX6_smallestRepair_32 : decode cX6_smallestRepair 32 = .ok (.if_icmp .ge 65, 3) := by decide +kernel
theorem dX6_smallestRepair_35 : decode cX6_smallestRepair 35 = .ok (.iconst 0, 1) := by decide +kernel
theorem dX6_smallestRepair_36 : decode cX6_smallestRepair 36 = .ok (.istore 4, 2) := by decide +kernel
theorem dX6_smallestRepair_38 : decode cX6_smallestRepair 38 = .ok (.iload 4, 2) := by decide +kernel
theorem dX6_smallestRepair_40 : decode cX6_smallestRepair 40 = .ok (.iload_n 1, 1) := by decide +kernel
theorem dX6_smallestRepair_41 : decode cX6_smallestRepair 41 = .ok (.if_icmp .ge 50, 3) := by decide +kernel
theorem dX6_smallestRepair_44 : decode cX6_smallestRepair 44 = .ok (.iload 4, 2) := by decide +kernel
theorem dX6_smallestRepair_46 : decode cX6_smallestRepair 46 = .ok (.invokestatic 172, 3) := by decide +kernel
theorem dX6_smallestRepair_49 : decode cX6_smallestRepair 49 = .ok (.iload_n 3, 1) := by decide +kernel
theorem dX6_smallestRepair_50 : decode cX6_smallestRepair 50 = .ok (.if_icmp .ne 15, 3) := by decide +kernel
theorem dX6_smallestRepair_53 : decode cX6_smallestRepair 53 = .ok (.iload 4, 2) := by decide +kernel
theorem dX6_smallestRepair_55 : decode cX6_smallestRepair 55 = .ok (.iload_n 2, 1) := by decide +kernel
theorem dX6_smallestRepair_56 : decode cX6_smallestRepair 56 = .ok (.iand, 1) := by decide +kernel
theorem dX6_smallestRepair_57 : decode cX6_smallestRepair 57 = .ok (.iload_n 2, 1) := by decide +kernel
theorem dX6_smallestRepair_58 : decode cX6_smallestRepair 58 = .ok (.if_icmp .ne 7, 3) := by decide +kernel
theorem dX6_smallestRepair_61 : decode cX6_smallestRepair 61 = .ok (.iconst 1, 1) := by decide +kernel
theorem dX6_smallestRepair_62 : decode cX6_smallestRepair 62 = .ok (.goto 4, 3) := by decide +kernel
theorem dX6_smallestRepair_65 : decode cX6_smallestRepair 65 = .ok (.iconst 0, 1) := by decide +kernel
theorem dX6_smallestRepair_66 : decode cX6_smallestRepair 66 = .ok (.istore 5, 2) := by decide +kernel
theorem dX6_smallestRepair_68 : decode cX6_smallestRepair 68 = .ok (.iload 5, 2) := by decide +kernel
theorem dX6_smallestRepair_70 : decode cX6_smallestRepair 70 = .ok (.ifCond .eq 15, 3) := by decide +kernel
theorem dX6_smallestRepair_73 : decode cX6_smallestRepair 73 = .ok (.aload_n 0, 1) := by decide +kernel
theorem dX6_smallestRepair_74 : decode cX6_smallestRepair 74 = .ok (.iload 4, 2) := by decide +kernel
theorem dX6_smallestRepair_76 : decode cX6_smallestRepair 76 = .ok (.invokevirtual 177, 3) := by decide +kernel
theorem dX6_smallestRepair_79 : decode cX6_smallestRepair 79 = .ok (.ifCond .eq 6, 3) := by decide +kernel
theorem dX6_smallestRepair_82 : decode cX6_smallestRepair 82 = .ok (.iload 4, 2) := by decide +kernel
theorem dX6_smallestRepair_84 : decode cX6_smallestRepair 84 = .ok (.ireturn, 1) := by decide +kernel
theorem dX6_smallestRepair_85 : decode cX6_smallestRepair 85 = .ok (.iinc 4 1, 3) := by decide +kernel
theorem dX6_smallestRepair_88 : decode cX6_smallestRepair 88 = .ok (.goto (-50), 3) := by decide +kernel
theorem dX6_smallestRepair_91 : decode cX6_smallestRepair 91 = .ok (.iinc 3 1, 3) := by decide +kernel
theorem dX6_smallestRepair_94 : decode cX6_smallestRepair 94 = .ok (.goto (-70), 3) := by decide +kernel
theorem dX6_smallestRepair_97 : decode cX6_smallestRepair 97 = .ok (.iload_n 1, 1) := by decide +kernel
theorem dX6_smallestRepair_98 : decode cX6_smallestRepair 98 = .ok (.ireturn, 1) := by decide +kernel
theorem dX6_take_0 : decode cX6_take 0 = .ok (.aload_n 0, 1) := by decide +kernel
theorem dX6_take_1 : decode cX6_take 1 = .ok (.getfield 19, 3) := by decide +kernel
theorem dX6_take_4 : decode cX6_take 4 = .ok (.iload_n 1, 1) := by decide +kernel
theorem dX6_take_5 : decode cX6_take 5 = .ok (.iconst 2, 1) := by decide +kernel
theorem dX6_take_6 : decode cX6_take 6 = .ok (.invokevirtual 180, 3) := by decide +kernel
theorem dX6_take_9 : decode cX6_take 9 = .ok (.ifCond .eq 27, 3) := by decide +kernel
theorem dX6_take_12 : decode cX6_take 12 = .ok (.aload_n 0, 1) := by decide +kernel
theorem dX6_take_13 : decode cX6_take 13 = .ok (.getfield 19, 3) := by decide +kernel
theorem dX6_take_16 : decode cX6_take 16 = .ok (.iload_n 2, 1) := by decide +kernel
theorem dX6_take_17 : decode cX6_take 17 = .ok (.bipush 8, 2) := by decide +kernel
theorem dX6_take_19 : decode cX6_take 19 = .ok (.invokevirtual 180, 3) := by decide +kernel
theorem dX6_take_22 : decode cX6_take 22 = .ok (.ifCond .eq 14, 3) := by decide +kernel
theorem dX6_take_25 : decode cX6_take 25 = .ok (.aload_n 0, 1) := by decide +kernel
theorem dX6_take_26 : decode cX6_take 26 = .ok (.getfield 19, 3) := by decide +kernel
theorem dX6_take_29 : decode cX6_take 29 = .ok (.iload_n 3, 1) := by decide +kernel
theorem dX6_take_30 : decode cX6_take 30 = .ok (.invokevirtual 86, 3) := by decide +kernel
theorem dX6_take_33 : decode cX6_take 33 = .ok (.ifCond .ne 5, 3) := by decide +kernel
theorem dX6_take_36 : decode cX6_take 36 = .ok (.iconst (-1), 1) := by decide +kernel
theorem dX6_take_37 : decode cX6_take 37 = .ok (.ireturn, 1) := by decide +kernel
theorem dX6_take_38 : decode cX6_take 38 = .ok (.aload_n 0, 1) := by decide +kernel
theorem dX6_take_39 : decode cX6_take 39 = .ok (.getfield 19, 3) := by decide +kernel
theorem dX6_take_42 : decode cX6_take 42 = .ok (.iload_n 1, 1) := by decide +kernel
theorem dX6_take_43 : decode cX6_take 43 = .ok (.iload_n 2, 1) := by decide +kernel
theorem dX6_take_44 : decode cX6_take 44 = .ok (.invokevirtual 183, 3) := by decide +kernel
theorem dX6_take_47 : decode cX6_take 47 = .ok (.ifCond .eq 15, 3) := by decide +kernel
theorem dX6_take_50 : decode cX6_take 50 = .ok (.aload_n 0, 1) := by decide +kernel
theorem dX6_take_51 : decode cX6_take 51 = .ok (.getfield 19, 3) := by decide +kernel
theorem dX6_take_54 : decode cX6_take 54 = .ok (.iload_n 2, 1) := by decide +kernel
theorem dX6_take_55 : decode cX6_take 55 = .ok (.iload_n 3, 1) := by decide +kernel
theorem dX6_take_56 : decode cX6_take 56 = .ok (.invokevirtual 183, 3) := by decide +kernel
theorem dX6_take_59 : decode cX6_take 59 = .ok (.ifCond .ne 6, 3) := by decide +kernel
theorem dX6_take_62 : decode cX6_take 62 = .ok (.bipush (-2), 2) := by decide +kernel
theorem dX6_take_64 : decode cX6_take 64 = .ok (.ireturn, 1) := by decide +kernel
theorem dX6_take_65 : decode cX6_take 65 = .ok (.aload_n 0, 1) := by decide +kernel
theorem dX6_take_66 : decode cX6_take 66 = .ok (.invokevirtual 73, 3) := by decide +kernel
theorem dX6_take_69 : decode cX6_take 69 = .ok (.aload_n 0, 1) := by decide +kernel
theorem dX6_take_70 : decode cX6_take 70 = .ok (.getfield 19, 3) := by decide +kernel
theorem dX6_take_73 : decode cX6_take 73 = .ok (.iload_n 1, 1) := by decide +kernel
theorem dX6_take_74 : decode cX6_take 74 = .ok (.iload_n 3, 1) := by decide +kernel
theorem dX6_take_75 : decode cX6_take 75 = .ok (.invokestatic 186, 3) := by decide +kernel
theorem dX6_take_78 : decode cX6_take 78 = .ok (.invokevirtual 189, 3) := by decide +kernel
theorem dX6_take_81 : decode cX6_take 81 = .ok (.ireturn, 1) := by decide +kernel
theorem dX6_undo_0 : decode cX6_undo 0 = .ok (.aload_n 0, 1) := by decide +kernel
theorem dX6_undo_1 : decode cX6_undo 1 = .ok (.getfield 29, 3) := by decide +kernel
theorem dX6_undo_4 : decode cX6_undo 4 = .ok (.getfield 208, 3) := by decide +kernel
theorem dX6_undo_7 : decode cX6_undo 7 = .ok (.ifCond .gt 6, 3) := by decide +kernel
theorem dX6_undo_10 : decode cX6_undo 10 = .ok (.bipush (-2), 2) := by decide +kernel
theorem dX6_undo_12 : decode cX6_undo 12 = .ok (.ireturn, 1) := by decide +kernel
theorem dX6_undo_13 : decode cX6_undo 13 = .ok (.aload_n 0, 1) := by decide +kernel
theorem dX6_undo_14 : decode cX6_undo 14 = .ok (.getfield 29, 3) := by decide +kernel
theorem dX6_undo_17 : decode cX6_undo 17 = .ok (.aload_n 0, 1) := by decide +kernel
theorem dX6_undo_18 : decode cX6_undo 18 = .ok (.getfield 19, 3) := by decide +kernel
theorem dX6_undo_21 : decode cX6_undo 21 = .ok (.invokevirtual 211, 3) := by decide +kernel
theorem dX6_undo_24 : decode cX6_undo 24 = .ok (.aload_n 0, 1) := by decide +kernel
theorem dX6_undo_25 : decode cX6_undo 25 = .ok (.iconst 0, 1) := by decide +kernel
theorem dX6_undo_26 : decode cX6_undo 26 = .ok (.putfield 57, 3) := by decide +kernel
theorem dX6_undo_29 : decode cX6_undo 29 = .ok (.aload_n 0, 1) := by decide +kernel
theorem dX6_undo_30 : decode cX6_undo 30 = .ok (.getfield 29, 3) := by decide +kernel
theorem dX6_undo_33 : decode cX6_undo 33 = .ok (.getfield 208, 3) := by decide +kernel
theorem dX6_undo_36 : decode cX6_undo 36 = .ok (.ireturn, 1) := by decide +kernel
theorem dX6_undoDepth_0 : decode cX6_undoDepth 0 = .ok (.aload_n 0, 1) := by decide +kernel
theorem dX6_undoDepth_1 : decode cX6_undoDepth 1 = .ok (.getfield 29, 3) := by decide +kernel
theorem dX6_undoDepth_4 : decode cX6_undoDepth 4 = .ok (.getfield 208, 3) := by decide +kernel
theorem dX6_undoDepth_7 : decode cX6_undoDepth 7 = .ok (.ireturn, 1) := by decide +kernel
theorem dX6_violationCount_0 : decode cX6_violationCount 0 = .ok (.aload_n 0, 1) := by decide +kernel
theorem dX6_violationCount_1 : decode cX6_violationCount 1 = .ok (.invokevirtual 123, 3) := by decide +kernel
theorem dX6_violationCount_4 : decode cX6_violationCount 4 = .ok (.aload_n 0, 1) := by decide +kernel
theorem dX6_violationCount_5 : decode cX6_violationCount 5 = .ok (.getfield 19, 3) := by decide +kernel
theorem dX6_violationCount_8 : decode cX6_violationCount 8 = .ok (.aload_n 0, 1) := by decide +kernel
theorem dX6_violationCount_9 : decode cX6_violationCount 9 = .ok (.getfield 43, 3) := by decide +kernel
theorem dX6_violationCount_12 : decode cX6_violationCount 12 = .ok (.getfield 126, 3) := by decide +kernel
theorem dX6_violationCount_15 : decode cX6_violationCount 15 = .ok (.invokevirtual 165, 3) := by decide +kernel
theorem dX6_violationCount_18 : decode cX6_violationCount 18 = .ok (.ireturn, 1) := by decide +kernel
theorem dX7_addReference_0 : decode cX7_addReference 0 = .ok (.aload_n 0, 1) := by decide +kernel
theorem dX7_addReference_1 : decode cX7_addReference 1 = .ok (.iconst 0, 1) := by decide +kernel
theorem dX7_addReference_2 : decode cX7_addReference 2 = .ok (.putfield 32, 3) := by decide +kernel
theorem dX7_addReference_5 : decode cX7_addReference 5 = .ok (.aload_n 0, 1) := by decide +kernel
theorem dX7_addReference_6 : decode cX7_addReference 6 = .ok (.getfield 7, 3) := by decide +kernel
theorem dX7_addReference_9 : decode cX7_addReference 9 = .ok (.iload_n 1, 1) := by decide +kernel
theorem dX7_addReference_10 : decode cX7_addReference 10 = .ok (.invokestatic 84, 3) := by decide +kernel
theorem dX7_addReference_13 : decode cX7_addReference 13 = .ok (.ifCond .eq 11, 3) := by decide +kernel
theorem dX7_addReference_16 : decode cX7_addReference 16 = .ok (.aload_n 0, 1) := by decide +kernel
theorem dX7_addReference_17 : decode cX7_addReference 17 = .ok (.iload_n 2, 1) := by decide +kernel
theorem dX7_addReference_18 : decode cX7_addReference 18 = .ok (.invokevirtual 108, 3) := by decide +kernel
theorem dX7_addReference_21 : decode cX7_addReference 21 = .ok (.ifCond .ne 5, 3) := by decide +kernel
theorem dX7_addReference_24 : decode cX7_addReference 24 = .ok (.iconst (-1), 1) := by decide +kernel
theorem dX7_addReference_25 : decode cX7_addReference 25 = .ok (.ireturn, 1) := by decide +kernel
theorem dX7_addReference_26 : decode cX7_addReference 26 = .ok (.aload_n 0, 1) := by decide +kernel
theorem dX7_addReference_27 : decode cX7_addReference 27 = .ok (.getfield 7, 3) := by decide +kernel
theorem dX7_addReference_30 : decode cX7_addReference 30 = .ok (.iload_n 1, 1) := by decide +kernel
theorem dX7_addReference_31 : decode cX7_addReference 31 = .ok (.iload_n 2, 1) := by decide +kernel
theorem dX7_addReference_32 : decode cX7_addReference 32 = .ok (.invokestatic 88, 3) := by decide +kernel
theorem dX7_addReference_35 : decode cX7_addReference 35 = .ok (.bipush (-9), 2) := by decide +kernel
theorem dX7_addReference_37 : decode cX7_addReference 37 = .ok (.if_icmp .eq 6, 3) := by decide +kernel
theorem dX7_addReference_40 : decode cX7_addReference 40 = .ok (.bipush (-2), 2) := by decide +kernel
theorem dX7_addReference_42 : decode cX7_addReference 42 = .ok (.ireturn, 1) := by decide +kernel
theorem dX7_addReference_43 : decode cX7_addReference 43 = .ok (.aload_n 0, 1) := by decide +kernel
theorem dX7_addReference_44 : decode cX7_addReference 44 = .ok (.getfield 7, 3) := by decide +kernel
theorem dX7_addReference_47 : decode cX7_addReference 47 = .ok (.bipush 41, 2) := by decide +kernel
theorem dX7_addReference_49 : decode cX7_addReference 49 = .ok (.iaload, 1) := by decide +kernel
theorem dX7_addReference_50 : decode cX7_addReference 50 = .ok (.bipush 10, 2) := by decide +kernel
theorem dX7_addReference_52 : decode cX7_addReference 52 = .ok (.if_icmp .ne 6, 3) := by decide +kernel
theorem dX7_addReference_55 : decode cX7_addReference 55 = .ok (.bipush (-3), 2) := by decide +kernel
theorem dX7_addReference_57 : decode cX7_addReference 57 = .ok (.ireturn, 1) := by decide +kernel
theorem dX7_addReference_58 : decode cX7_addReference 58 = .ok (.aload_n 0, 1) := by decide +kernel
theorem dX7_addReference_59 : decode cX7_addReference 59 = .ok (.invokevirtual 99, 3) := by decide +kernel
theorem dX7_addReference_62 : decode cX7_addReference 62 = .ok (.aload_n 0, 1) := by decide +kernel
theorem dX7_addReference_63 : decode cX7_addReference 63 = .ok (.getfield 7, 3) := by decide +kernel
theorem dX7_addReference_66 : decode cX7_addReference 66 = .ok (.bipush 42, 2) := by decide +kernel
theorem dX7_addReference_68 : decode cX7_addReference 68 = .ok (.iconst 2, 1) := by decide +kernel
theorem dX7_addReference_69 : decode cX7_addReference 69 = .ok (.aload_n 0, 1) := by decide +kernel
theorem dX7_addReference_70 : decode cX7_addReference 70 = .ok (.getfield 7, 3) := by decide +kernel
theorem dX7_addReference_73 : decode cX7_addReference 73 = .ok (.bipush 41, 2) := by decide +kernel
theorem dX7_addReference_75 : decode cX7_addReference 75 = .ok (.iaload, 1) := by decide +kernel
theorem dX7_addReference_76 : decode cX7_addReference 76 = .ok (.imul, 1) := by decide +kernel
theorem dX7_addReference_77 : decode cX7_addReference 77 = .ok (.iadd, 1) := by decide +kernel
theorem dX7_addReference_78 : decode cX7_addReference 78 = .ok (.iload_n 1, 1) := by decide +kernel
theorem dX7_addReference_79 : decode cX7_addReference 79 = .ok (.iastore, 1) := by decide +kernel
theorem dX7_addReference_80 : decode cX7_addReference 80 = .ok (.aload_n 0, 1) := by decide +kernel
theorem dX7_addReference_81 : decode cX7_addReference 81 = .ok (.getfield 7, 3) := by decide +kernel
theorem dX7_addReference_84 : decode cX7_addReference 84 = .ok (.bipush 42, 2) := by decide +kernel
theorem dX7_addReference_86 : decode cX7_addReference 86 = .ok (.iconst 2, 1) := by decide +kernel
theorem dX7_addReference_87 : decode cX7_addReference 87 = .ok (.aload_n 0, 1) := by decide +kernel
theorem dX7_addReference_88 : decode cX7_addReference 88 = .ok (.getfield 7, 3) := by decide +kernel
theorem dX7_addReference_91 : decode cX7_addReference 91 = .ok (.bipush 41, 2) := by decide +kernel
theorem dX7_addReference_93 : decode cX7_addReference 93 = .ok (.iaload, 1) := by decide +kernel
theorem dX7_addReference_94 : decode cX7_addReference 94 = .ok (.imul, 1) := by decide +kernel
theorem dX7_addReference_95 : decode cX7_addReference 95 = .ok (.iadd, 1) := by decide +kernel
theorem dX7_addReference_96 : decode cX7_addReference 96 = .ok (.iconst 1, 1) := by decide +kernel
theorem dX7_addReference_97 : decode cX7_addReference 97 = .ok (.iadd, 1) := by decide +kernel
theorem dX7_addReference_98 : decode cX7_addReference 98 = .ok (.iload_n 2, 1) := by decide +kernel
theorem dX7_addReference_99 : decode cX7_addReference 99 = .ok (.iastore, 1) := by decide +kernel
theorem dX7_addReference_100 : decode cX7_addReference 100 = .ok (.aload_n 0, 1) := by decide +kernel
theorem dX7_addReference_101 : decode cX7_addReference 101 = .ok (.getfield 7, 3) := by decide +kernel
theorem dX7_addReference_104 : decode cX7_addReference 104 = .ok (.bipush 41, 2) := by decide +kernel
theorem dX7_addReference_106 : decode cX7_addReference 106 = .ok (.dup2, 1) := by decide +kernel
theorem dX7_addReference_107 : decode cX7_addReference 107 = .ok (.iaload, 1) := by decide +kernel
theorem dX7_addReference_108 : decode cX7_addReference 108 = .ok (.iconst 1, 1) := by decide +kernel
theorem dX7_addReference_109 : decode cX7_addReference 109 = .ok (.iadd, 1) := by decide +kernel
theorem dX7_addReference_110 : decode cX7_addReference 110 = .ok (.iastore, 1) := by decide +kernel
theorem dX7_addReference_111 : decode cX7_addReference 111 = .ok (.aload_n 0, 1) := by decide +kernel
theorem dX7_addReference_112 : decode cX7_addReference 112 = .ok (.invokevirtual 102, 3) := by decide +kernel
theorem dX7_addReference_115 : decode cX7_addReference 115 = .ok (.aload_n 0, 1) := by decide +kernel
theorem dX7_addReference_116 : decode cX7_addReference 116 = .ok (.getfield 7, 3) := by decide +kernel
theorem dX7_addReference_119 : decode cX7_addReference 119 = .ok (.bipush 41, 2) := by decide +kernel
theorem dX7_addReference_121 : decode cX7_addReference 121 = .ok (.iaload, 1) := by decide +kernel
theorem dX7_addReference_122 : decode cX7_addReference 122 = .ok (.ireturn, 1) := by decide +kernel
theorem dX7_advance_0 : decode cX7_advance 0 = .ok (.aload_n 0, 1) := by decide +kernel
theorem dX7_advance_1 : decode cX7_advance 1 = .ok (.aload_n 0, 1) := by decide +kernel
theorem dX7_advance_2 : decode cX7_advance 2 = .ok (.getfield 42, 3) := by decide +kernel
theorem dX7_advance_5 : decode cX7_advance 5 = .ok (.invokevirtual 49, 3) := by decide +kernel
theorem dX7_advance_8 : decode cX7_advance 8 = .ok (.bipush 32, 2) := by decide +kernel
theorem dX7_advance_10 : decode cX7_advance 10 = .ok (.if_icmp .ne 16, 3) := by decide +kernel
theorem dX7_advance_13 : decode cX7_advance 13 = .ok (.aload_n 0, 1) := by decide +kernel
theorem dX7_advance_14 : decode cX7_advance 14 = .ok (.dup, 1) := by decide +kernel
theorem dX7_advance_15 : decode cX7_advance 15 = .ok (.getfield 42, 3) := by decide +kernel
theorem dX7_advance_18 : decode cX7_advance 18 = .ok (.iconst 1, 1) := by decide +kernel
theorem dX7_advance_19 : decode cX7_advance 19 = .ok (.iadd, 1) := by decide +kernel
theorem dX7_advance_20 : decode cX7_advance 20 = .ok (.putfield 42, 3) := by decide +kernel
theorem dX7_advance_23 : decode cX7_advance 23 = .ok (.goto (-23), 3) := by decide +kernel
theorem dX7_advance_26 : decode cX7_advance 26 = .ok (.aload_n 0, 1) := by decide +kernel
theorem dX7_advance_27 : decode cX7_advance 27 = .ok (.aload_n 0, 1) := by decide +kernel
theorem dX7_advance_28 : decode cX7_advance 28 = .ok (.getfield 42, 3) := by decide +kernel
theorem dX7_advance_31 : decode cX7_advance 31 = .ok (.putfield 39, 3) := by decide +kernel
theorem dX7_advance_34 : decode cX7_advance 34 = .ok (.aload_n 0, 1) := by decide +kernel
theorem dX7_advance_35 : decode cX7_advance 35 = .ok (.aload_n 0, 1) := by decide +kernel
theorem dX7_advance_36 : decode cX7_advance 36 = .ok (.getfield 42, 3) := by decide +kernel
theorem dX7_advance_39 : decode cX7_advance 39 = .ok (.invokevirtual 49, 3) := by decide +kernel
theorem dX7_advance_42 : decode cX7_advance 42 = .ok (.istore_n 1, 1) := by decide +kernel
theorem dX7_advance_43 : decode cX7_advance 43 = .ok (.iload_n 1, 1) := by decide +kernel
theorem dX7_advance_44 : decode cX7_advance 44 = .ok (.ifCond .ge 11, 3) := by decide +kernel
theorem dX7_advance_47 : decode cX7_advance 47 = .ok (.aload_n 0, 1) := by decide +kernel
theorem dX7_advance_48 : decode cX7_advance 48 = .ok (.iconst 0, 1) := by decide +kernel
theorem dX7_advance_49 : decode cX7_advance 49 = .ok (.putfield 53, 3) := by decide +kernel
theorem dX7_advance_52 : decode cX7_advance 52 = .ok (.goto 230, 3) := by decide +kernel
theorem dX7_advance_55 : decode cX7_advance 55 = .ok (.iload_n 1, 1) := by decide +kernel
theorem dX7_advance_56 : decode cX7_advance 56 = .ok (.bipush 97, 2) := by decide +kernel
theorem dX7_advance_58 : decode cX7_advance 58 = .ok (.bipush 122, 2) := by decide +kernel
theorem dX7_advance_60 : decode cX7_advance 60 = .ok (.invokestatic 56, 3) := by decide +kernel
theorem dX7_advance_63 : decode cX7_advance 63 = .ok (.ifCond .eq 50, 3) := by decide +kernel
theorem dX7_advance_66 : decode cX7_advance 66 = .ok (.aload_n 0, 1) := by decide +kernel
theorem dX7_advance_67 : decode cX7_advance 67 = .ok (.aload_n 0, 1) := by decide +kernel
theorem dX7_advance_68 : decode cX7_advance 68 = .ok (.getfield 42, 3) := by decide +kernel
theorem dX7_advance_71 : decode cX7_advance 71 = .ok (.invokevirtual 49, 3) := by decide +kernel
theorem dX7_advance_74 : decode cX7_advance 74 = .ok (.bipush 97, 2) := by decide +kernel
theorem dX7_advance_76 : decode cX7_advance 76 = .ok (.bipush 122, 2) := by decide +kernel
theorem dX7_advance_78 : decode cX7_advance 78 = .ok (.invokestatic 56, 3) := by decide +kernel
theorem dX7_advance_81 : decode cX7_advance 81 = .ok (.ifCond .eq 16, 3) := by decide +kernel
theorem dX7_advance_84 : decode cX7_advance 84 = .ok (.aload_n 0, 1) := by decide +kernel
theorem dX7_advance_85 : decode cX7_advance 85 = .ok (.dup, 1) := by decide +kernel
end
section
theorem dX7_advance_86 : decode cX7_advance 86 = .ok (.getfield 42, 3) := by decide +kernel
theorem dX7_advance_89 : decode cX7_advance 89 = .ok (.iconst 1, 1) := by decide +kernel
theorem dX7_advance_90 : decode cX7_advance 90 = .ok (.iadd, 1) := by decide +kernel
theorem dX7_advance_91 : decode cX7_advance 91 = .ok (.putfield 42, 3) := by decide +kernel
theorem dX7_advance_94 : decode cX7_advance 94 = .ok (.goto (-28), 3) := by decide +kernel
theorem dX7_advance_97 : decode cX7_advance 97 = .ok (.aload_n 0, 1) := by decide +kernel
theorem dX7_advance_98 : decode cX7_advance 98 = .ok (.iconst 1, 1) := by decide +kernel
theorem dX7_advance_99 : decode cX7_advance 99 = .ok (.putfield 53, 3) := by decide +kernel
theorem dX7_advance_102 : decode cX7_advance 102 = .ok (.aload_n 0, 1) := by decide +kernel
theorem dX7_advance_103 : decode cX7_advance 103 = .ok (.aload_n 0, 1) := by decide +kernel
theorem dX7_advance_104 : decode cX7_advance 104 = .ok (.invokevirtual 60, 3) := by decide +kernel
theorem dX7_advance_107 : decode cX7_advance 107 = .ok (.putfield 64, 3) := by decide +kernel
theorem dX7_advance_110 : decode cX7_advance 110 = .ok (.goto 172, 3) := by decide +kernel
theorem dX7_advance_113 : decode cX7_advance 113 = .ok (.iload_n 1, 1) := by decide +kernel
theorem dX7_advance_114 : decode cX7_advance 114 = .ok (.bipush 48, 2) := by decide +kernel
theorem dX7_advance_116 : decode cX7_advance 116 = .ok (.bipush 57, 2) := by decide +kernel
theorem dX7_advance_118 : decode cX7_advance 118 = .ok (.invokestatic 56, 3) := by decide +kernel
theorem dX7_advance_121 : decode cX7_advance 121 = .ok (.ifCond .eq 136, 3) := by decide +kernel
theorem dX7_advance_124 : decode cX7_advance 124 = .ok (.aload_n 0, 1) := by decide +kernel
theorem dX7_advance_125 : decode cX7_advance 125 = .ok (.iconst 0, 1) := by decide +kernel
theorem dX7_advance_126 : decode cX7_advance 126 = .ok (.putfield 64, 3) := by decide +kernel
theorem dX7_advance_129 : decode cX7_advance 129 = .ok (.aload_n 0, 1) := by decide +kernel
theorem dX7_advance_130 : decode cX7_advance 130 = .ok (.aload_n 0, 1) := by decide +kernel
theorem dX7_advance_131 : decode cX7_advance 131 = .ok (.getfield 42, 3) := by decide +kernel
theorem dX7_advance_134 : decode cX7_advance 134 = .ok (.invokevirtual 49, 3) := by decide +kernel
theorem dX7_advance_137 : decode cX7_advance 137 = .ok (.bipush 48, 2) := by decide +kernel
theorem dX7_advance_139 : decode cX7_advance 139 = .ok (.bipush 57, 2) := by decide +kernel
theorem dX7_advance_141 : decode cX7_advance 141 = .ok (.invokestatic 56, 3) := by decide +kernel
theorem dX7_advance_144 : decode cX7_advance 144 = .ok (.ifCond .eq 59, 3) := by decide +kernel
theorem dX7_advance_147 : decode cX7_advance 147 = .ok (.aload_n 0, 1) := by decide +kernel
theorem dX7_advance_148 : decode cX7_advance 148 = .ok (.aload_n 0, 1) := by decide +kernel
theorem dX7_advance_149 : decode cX7_advance 149 = .ok (.getfield 42, 3) := by decide +kernel
theorem dX7_advance_152 : decode cX7_advance 152 = .ok (.aload_n 0, 1) := by decide +kernel
theorem dX7_advance_153 : decode cX7_advance 153 = .ok (.getfield 39, 3) := by decide +kernel
theorem dX7_advance_156 : decode cX7_advance 156 = .ok (.isub, 1) := by decide +kernel
theorem dX7_advance_157 : decode cX7_advance 157 = .ok (.iconst 2, 1) := by decide +kernel
theorem dX7_advance_158 : decode cX7_advance 158 = .ok (.if_icmp .ge 25, 3) := by decide +kernel
theorem dX7_advance_161 : decode cX7_advance 161 = .ok (.bipush 10, 2) := by decide +kernel
theorem dX7_advance_163 : decode cX7_advance 163 = .ok (.aload_n 0, 1) := by decide +kernel
theorem dX7_advance_164 : decode cX7_advance 164 = .ok (.getfield 64, 3) := by decide +kernel
theorem dX7_advance_167 : decode cX7_advance 167 = .ok (.imul, 1) := by decide +kernel
theorem dX7_advance_168 : decode cX7_advance 168 = .ok (.aload_n 0, 1) := by decide +kernel
theorem dX7_advance_169 : decode cX7_advance 169 = .ok (.aload_n 0, 1) := by decide +kernel
theorem dX7_advance_170 : decode cX7_advance 170 = .ok (.getfield 42, 3) := by decide +kernel
theorem dX7_advance_173 : decode cX7_advance 173 = .ok (.invokevirtual 49, 3) := by decide +kernel
theorem dX7_advance_176 : decode cX7_advance 176 = .ok (.iadd, 1) := by decide +kernel
theorem dX7_advance_177 : decode cX7_advance 177 = .ok (.bipush 48, 2) := by decide +kernel
theorem dX7_advance_179 : decode cX7_advance 179 = .ok (.isub, 1) := by decide +kernel
theorem dX7_advance_180 : decode cX7_advance 180 = .ok (.goto 7, 3) := by decide +kernel
theorem dX7_advance_183 : decode cX7_advance 183 = .ok (.aload_n 0, 1) := by decide +kernel
theorem dX7_advance_184 : decode cX7_advance 184 = .ok (.getfield 64, 3) := by decide +kernel
theorem dX7_advance_187 : decode cX7_advance 187 = .ok (.putfield 64, 3) := by decide +kernel
theorem dX7_advance_190 : decode cX7_advance 190 = .ok (.aload_n 0, 1) := by decide +kernel
theorem dX7_advance_191 : decode cX7_advance 191 = .ok (.dup, 1) := by decide +kernel
theorem dX7_advance_192 : decode cX7_advance 192 = .ok (.getfield 42, 3) := by decide +kernel
theorem dX7_advance_195 : decode cX7_advance 195 = .ok (.iconst 1, 1) := by decide +kernel
theorem dX7_advance_196 : decode cX7_advance 196 = .ok (.iadd, 1) := by decide +kernel
theorem dX7_advance_197 : decode cX7_advance 197 = .ok (.putfield 42, 3) := by decide +kernel
theorem dX7_advance_200 : decode cX7_advance 200 = .ok (.goto (-71), 3) := by decide +kernel
theorem dX7_advance_203 : decode cX7_advance 203 = .ok (.aload_n 0, 1) := by decide +kernel
theorem dX7_advance_204 : decode cX7_advance 204 = .ok (.getfield 42, 3) := by decide +kernel
theorem dX7_advance_207 : decode cX7_advance 207 = .ok (.aload_n 0, 1) := by decide +kernel
theorem dX7_advance_208 : decode cX7_advance 208 = .ok (.getfield 39, 3) := by decide +kernel
theorem dX7_advance_211 : decode cX7_advance 211 = .ok (.isub, 1) := by decide +kernel
theorem dX7_advance_212 : decode cX7_advance 212 = .ok (.iconst 1, 1) := by decide +kernel
theorem dX7_advance_213 : decode cX7_advance 213 = .ok (.if_icmp .eq 22, 3) := by decide +kernel
theorem dX7_advance_216 : decode cX7_advance 216 = .ok (.aload_n 0, 1) := by decide +kernel
theorem dX7_advance_217 : decode cX7_advance 217 = .ok (.getfield 42, 3) := by decide +kernel
theorem dX7_advance_220 : decode cX7_advance 220 = .ok (.aload_n 0, 1) := by decide +kernel
theorem dX7_advance_221 : decode cX7_advance 221 = .ok (.getfield 39, 3) := by decide +kernel
theorem dX7_advance_224 : decode cX7_advance 224 = .ok (.isub, 1) := by decide +kernel
theorem dX7_advance_225 : decode cX7_advance 225 = .ok (.iconst 2, 1) := by decide +kernel
theorem dX7_advance_226 : decode cX7_advance 226 = .ok (.if_icmp .ne 13, 3) := by decide +kernel
theorem dX7_advance_229 : decode cX7_advance 229 = .ok (.iload_n 1, 1) := by decide +kernel
theorem dX7_advance_230 : decode cX7_advance 230 = .ok (.bipush 48, 2) := by decide +kernel
theorem dX7_advance_232 : decode cX7_advance 232 = .ok (.if_icmp .eq 7, 3) := by decide +kernel
theorem dX7_advance_235 : decode cX7_advance 235 = .ok (.iconst 1, 1) := by decide +kernel
theorem dX7_advance_236 : decode cX7_advance 236 = .ok (.goto 4, 3) := by decide +kernel
theorem dX7_advance_239 : decode cX7_advance 239 = .ok (.iconst 0, 1) := by decide +kernel
theorem dX7_advance_240 : decode cX7_advance 240 = .ok (.istore_n 2, 1) := by decide +kernel
theorem dX7_advance_241 : decode cX7_advance 241 = .ok (.aload_n 0, 1) := by decide +kernel
theorem dX7_advance_242 : decode cX7_advance 242 = .ok (.iload_n 2, 1) := by decide +kernel
theorem dX7_advance_243 : decode cX7_advance 243 = .ok (.ifCond .eq 7, 3) := by decide +kernel
theorem dX7_advance_246 : decode cX7_advance 246 = .ok (.iconst 2, 1) := by decide +kernel
theorem dX7_advance_247 : decode cX7_advance 247 = .ok (.goto 4, 3) := by decide +kernel
theorem dX7_advance_250 : decode cX7_advance 250 = .ok (.iconst 4, 1) := by decide +kernel
theorem dX7_advance_251 : decode cX7_advance 251 = .ok (.putfield 53, 3) := by decide +kernel
theorem dX7_advance_254 : decode cX7_advance 254 = .ok (.goto 28, 3) := by decide +kernel
theorem dX7_advance_257 : decode cX7_advance 257 = .ok (.aload_n 0, 1) := by decide +kernel
theorem dX7_advance_258 : decode cX7_advance 258 = .ok (.dup, 1) := by decide +kernel
theorem dX7_advance_259 : decode cX7_advance 259 = .ok (.getfield 42, 3) := by decide +kernel
theorem dX7_advance_262 : decode cX7_advance 262 = .ok (.iconst 1, 1) := by decide +kernel
theorem dX7_advance_263 : decode cX7_advance 263 = .ok (.iadd, 1) := by decide +kernel
theorem dX7_advance_264 : decode cX7_advance 264 = .ok (.putfield 42, 3) := by decide +kernel
theorem dX7_advance_267 : decode cX7_advance 267 = .ok (.aload_n 0, 1) := by decide +kernel
theorem dX7_advance_268 : decode cX7_advance 268 = .ok (.iload_n 1, 1) := by decide +kernel
theorem dX7_advance_269 : decode cX7_advance 269 = .ok (.bipush 59, 2) := by decide +kernel
theorem dX7_advance_271 : decode cX7_advance 271 = .ok (.if_icmp .ne 7, 3) := by decide +kernel
theorem dX7_advance_274 : decode cX7_advance 274 = .ok (.iconst 3, 1) := by decide +kernel
theorem dX7_advance_275 : decode cX7_advance 275 = .ok (.goto 4, 3) := by decide +kernel
theorem dX7_advance_278 : decode cX7_advance 278 = .ok (.iconst 4, 1) := by decide +kernel
theorem dX7_advance_279 : decode cX7_advance 279 = .ok (.putfield 53, 3) := by decide +kernel
theorem dX7_advance_282 : decode cX7_advance 282 = .ok (.return_, 1) := by decide +kernel
theorem dX7_analyse_0 : decode cX7_analyse 0 = .ok (.iconst 0, 1) := by decide +kernel
theorem dX7_analyse_1 : decode cX7_analyse 1 = .ok (.istore_n 2, 1) := by decide +kernel
theorem dX7_analyse_2 : decode cX7_analyse 2 = .ok (.iload_n 2, 1) := by decide +kernel
theorem dX7_analyse_3 : decode cX7_analyse 3 = .ok (.bipush 100, 2) := by decide +kernel
theorem dX7_analyse_5 : decode cX7_analyse 5 = .ok (.if_icmp .ge 17, 3) := by decide +kernel
theorem dX7_analyse_8 : decode cX7_analyse 8 = .ok (.aload_n 0, 1) := by decide +kernel
theorem dX7_analyse_9 : decode cX7_analyse 9 = .ok (.getfield 22, 3) := by decide +kernel
theorem dX7_analyse_12 : decode cX7_analyse 12 = .ok (.iload_n 2, 1) := by decide +kernel
theorem dX7_analyse_13 : decode cX7_analyse 13 = .ok (.bipush (-9), 2) := by decide +kernel
theorem dX7_analyse_15 : decode cX7_analyse 15 = .ok (.iastore, 1) := by decide +kernel
theorem dX7_analyse_16 : decode cX7_analyse 16 = .ok (.iinc 2 1, 3) := by decide +kernel
theorem dX7_analyse_19 : decode cX7_analyse 19 = .ok (.goto (-17), 3) := by decide +kernel
theorem dX7_analyse_22 : decode cX7_analyse 22 = .ok (.iconst 0, 1) := by decide +kernel
theorem dX7_analyse_23 : decode cX7_analyse 23 = .ok (.istore_n 2, 1) := by decide +kernel
theorem dX7_analyse_24 : decode cX7_analyse 24 = .ok (.iload_n 2, 1) := by decide +kernel
theorem dX7_analyse_25 : decode cX7_analyse 25 = .ok (.aload_n 0, 1) := by decide +kernel
theorem dX7_analyse_26 : decode cX7_analyse 26 = .ok (.getfield 7, 3) := by decide +kernel
theorem dX7_analyse_29 : decode cX7_analyse 29 = .ok (.bipush 41, 2) := by decide +kernel
theorem dX7_analyse_31 : decode cX7_analyse 31 = .ok (.iaload, 1) := by decide +kernel
theorem dX7_analyse_32 : decode cX7_analyse 32 = .ok (.if_icmp .ge 51, 3) := by decide +kernel
theorem dX7_analyse_35 : decode cX7_analyse 35 = .ok (.iload_n 1, 1) := by decide +kernel
theorem dX7_analyse_36 : decode cX7_analyse 36 = .ok (.iload_n 2, 1) := by decide +kernel
theorem dX7_analyse_37 : decode cX7_analyse 37 = .ok (.invokestatic 151, 3) := by decide +kernel
theorem dX7_analyse_40 : decode cX7_analyse 40 = .ok (.ifCond .ne 37, 3) := by decide +kernel
theorem dX7_analyse_43 : decode cX7_analyse 43 = .ok (.aload_n 0, 1) := by decide +kernel
theorem dX7_analyse_44 : decode cX7_analyse 44 = .ok (.getfield 22, 3) := by decide +kernel
theorem dX7_analyse_47 : decode cX7_analyse 47 = .ok (.bipush 10, 2) := by decide +kernel
theorem dX7_analyse_49 : decode cX7_analyse 49 = .ok (.aload_n 0, 1) := by decide +kernel
theorem dX7_analyse_50 : decode cX7_analyse 50 = .ok (.getfield 7, 3) := by decide +kernel
theorem dX7_analyse_53 : decode cX7_analyse 53 = .ok (.bipush 42, 2) := by decide +kernel
theorem dX7_analyse_55 : decode cX7_analyse 55 = .ok (.iconst 2, 1) := by decide +kernel
theorem dX7_analyse_56 : decode cX7_analyse 56 = .ok (.iload_n 2, 1) := by decide +kernel
theorem dX7_analyse_57 : decode cX7_analyse 57 = .ok (.imul, 1) := by decide +kernel
theorem dX7_analyse_58 : decode cX7_analyse 58 = .ok (.iadd, 1) := by decide +kernel
theorem dX7_analyse_59 : decode cX7_analyse 59 = .ok (.iaload, 1) := by decide +kernel
theorem dX7_analyse_60 : decode cX7_analyse 60 = .ok (.imul, 1) := by decide +kernel
theorem dX7_analyse_61 : decode cX7_analyse 61 = .ok (.aload_n 0, 1) := by decide +kernel
theorem dX7_analyse_62 : decode cX7_analyse 62 = .ok (.getfield 7, 3) := by decide +kernel
theorem dX7_analyse_65 : decode cX7_analyse 65 = .ok (.bipush 42, 2) := by decide +kernel
theorem dX7_analyse_67 : decode cX7_analyse 67 = .ok (.iconst 2, 1) := by decide +kernel
theorem dX7_analyse_68 : decode cX7_analyse 68 = .ok (.iload_n 2, 1) := by decide +kernel
theorem dX7_analyse_69 : decode cX7_analyse 69 = .ok (.imul, 1) := by decide +kernel
theorem dX7_analyse_70 : decode cX7_analyse 70 = .ok (.iadd, 1) := by decide +kernel
theorem dX7_analyse_71 : decode cX7_analyse 71 = .ok (.iconst 1, 1) := by decide +kernel
theorem dX7_analyse_72 : decode cX7_analyse 72 = .ok (.iadd, 1) := by decide +kernel
theorem dX7_analyse_73 : decode cX7_analyse 73 = .ok (.iaload, 1) := by decide +kernel
theorem dX7_analyse_74 : decode cX7_analyse 74 = .ok (.iadd, 1) := by decide +kernel
theorem dX7_analyse_75 : decode cX7_analyse 75 = .ok (.iconst 0, 1) := by decide +kernel
theorem dX7_analyse_76 : decode cX7_analyse 76 = .ok (.iastore, 1) := by decide +kernel
theorem dX7_analyse_77 : decode cX7_analyse 77 = .ok (.iinc 2 1, 3) := by decide +kernel
theorem dX7_analyse_80 : decode cX7_analyse 80 = .ok (.goto (-56), 3) := by decide +kernel
theorem dX7_analyse_83 : decode cX7_analyse 83 = .ok (.aload_n 0, 1) := by decide +kernel
theorem dX7_analyse_84 : decode cX7_analyse 84 = .ok (.iconst 0, 1) := by decide +kernel
theorem dX7_analyse_85 : decode cX7_analyse 85 = .ok (.putfield 154, 3) := by decide +kernel
theorem dX7_analyse_88 : decode cX7_analyse 88 = .ok (.iconst 1, 1) := by decide +kernel
theorem dX7_analyse_89 : decode cX7_analyse 89 = .ok (.istore_n 2, 1) := by decide +kernel
theorem dX7_analyse_90 : decode cX7_analyse 90 = .ok (.aload_n 0, 1) := by decide +kernel
theorem dX7_analyse_91 : decode cX7_analyse 91 = .ok (.iload_n 2, 1) := by decide +kernel
theorem dX7_analyse_92 : decode cX7_analyse 92 = .ok (.invokevirtual 157, 3) := by decide +kernel
theorem dX7_analyse_95 : decode cX7_analyse 95 = .ok (.ifCond .eq 14, 3) := by decide +kernel
theorem dX7_analyse_98 : decode cX7_analyse 98 = .ok (.aload_n 0, 1) := by decide +kernel
theorem dX7_analyse_99 : decode cX7_analyse 99 = .ok (.iload_n 2, 1) := by decide +kernel
theorem dX7_analyse_100 : decode cX7_analyse 100 = .ok (.putfield 154, 3) := by decide +kernel
theorem dX7_analyse_103 : decode cX7_analyse 103 = .ok (.iinc 2 1, 3) := by decide +kernel
theorem dX7_analyse_106 : decode cX7_analyse 106 = .ok (.goto (-16), 3) := by decide +kernel
theorem dX7_analyse_109 : decode cX7_analyse 109 = .ok (.return_, 1) := by decide +kernel
theorem dX7_answerer_0 : decode cX7_answerer 0 = .ok (.iconst 0, 1) := by decide +kernel
theorem dX7_answerer_1 : decode cX7_answerer 1 = .ok (.istore 4, 2) := by decide +kernel
theorem dX7_answerer_3 : decode cX7_answerer 3 = .ok (.iload 4, 2) := by decide +kernel
theorem dX7_answerer_5 : decode cX7_answerer 5 = .ok (.aload_n 0, 1) := by decide +kernel
theorem dX7_answerer_6 : decode cX7_answerer 6 = .ok (.getfield 7, 3) := by decide +kernel
theorem dX7_answerer_9 : decode cX7_answerer 9 = .ok (.iconst 0, 1) := by decide +kernel
theorem dX7_answerer_10 : decode cX7_answerer 10 = .ok (.iaload, 1) := by decide +kernel
theorem dX7_answerer_11 : decode cX7_answerer 11 = .ok (.if_icmp .ge 54, 3) := by decide +kernel
theorem dX7_answerer_14 : decode cX7_answerer 14 = .ok (.aload_n 0, 1) := by decide +kernel
theorem dX7_answerer_15 : decode cX7_answerer 15 = .ok (.iload_n 1, 1) := by decide +kernel
theorem dX7_answerer_16 : decode cX7_answerer 16 = .ok (.iconst 2, 1) := by decide +kernel
theorem dX7_answerer_17 : decode cX7_answerer 17 = .ok (.invokevirtual 119, 3) := by decide +kernel
theorem dX7_answerer_20 : decode cX7_answerer 20 = .ok (.ifCond .eq 45, 3) := by decide +kernel
theorem dX7_answerer_23 : decode cX7_answerer 23 = .ok (.aload_n 0, 1) := by decide +kernel
theorem dX7_answerer_24 : decode cX7_answerer 24 = .ok (.iload 4, 2) := by decide +kernel
theorem dX7_answerer_26 : decode cX7_answerer 26 = .ok (.bipush 8, 2) := by decide +kernel
theorem dX7_answerer_28 : decode cX7_answerer 28 = .ok (.invokevirtual 119, 3) := by decide +kernel
theorem dX7_answerer_31 : decode cX7_answerer 31 = .ok (.ifCond .eq 28, 3) := by decide +kernel
theorem dX7_answerer_34 : decode cX7_answerer 34 = .ok (.aload_n 0, 1) := by decide +kernel
theorem dX7_answerer_35 : decode cX7_answerer 35 = .ok (.iload_n 1, 1) := by decide +kernel
theorem dX7_answerer_36 : decode cX7_answerer 36 = .ok (.iload 4, 2) := by decide +kernel
theorem dX7_answerer_38 : decode cX7_answerer 38 = .ok (.iload_n 3, 1) := by decide +kernel
theorem dX7_answerer_39 : decode cX7_answerer 39 = .ok (.invokevirtual 122, 3) := by decide +kernel
theorem dX7_answerer_42 : decode cX7_answerer 42 = .ok (.ifCond .eq 17, 3) := by decide +kernel
theorem dX7_answerer_45 : decode cX7_answerer 45 = .ok (.aload_n 0, 1) := by decide +kernel
theorem dX7_answerer_46 : decode cX7_answerer 46 = .ok (.iload 4, 2) := by decide +kernel
theorem dX7_answerer_48 : decode cX7_answerer 48 = .ok (.iload_n 2, 1) := by decide +kernel
theorem dX7_answerer_49 : decode cX7_answerer 49 = .ok (.iload_n 3, 1) := by decide +kernel
theorem dX7_answerer_50 : decode cX7_answerer 50 = .ok (.invokevirtual 122, 3) := by decide +kernel
theorem dX7_answerer_53 : decode cX7_answerer 53 = .ok (.ifCond .eq 6, 3) := by decide +kernel
theorem dX7_answerer_56 : decode cX7_answerer 56 = .ok (.iload 4, 2) := by decide +kernel
theorem dX7_answerer_58 : decode cX7_answerer 58 = .ok (.ireturn, 1) := by decide +kernel
theorem dX7_answerer_59 : decode cX7_answerer 59 = .ok (.iinc 4 1, 3) := by decide +kernel
theorem dX7_answerer_62 : decode cX7_answerer 62 = .ok (.goto (-59), 3) := by decide +kernel
theorem dX7_answerer_65 : decode cX7_answerer 65 = .ok (.bipush (-9), 2) := by decide +kernel
theorem dX7_answerer_67 : decode cX7_answerer 67 = .ok (.ireturn, 1) := by decide +kernel
theorem dX7_append_0 : decode cX7_append 0 = .ok (.aload_n 0, 1) := by decide +kernel
theorem dX7_append_1 : decode cX7_append 1 = .ok (.iconst 0, 1) := by decide +kernel
theorem dX7_append_2 : decode cX7_append 2 = .ok (.putfield 32, 3) := by decide +kernel
theorem dX7_append_5 : decode cX7_append 5 = .ok (.iload_n 1, 1) := by decide +kernel
theorem dX7_append_6 : decode cX7_append 6 = .ok (.iconst 0, 1) := by decide +kernel
theorem dX7_append_7 : decode cX7_append 7 = .ok (.sipush 255, 3) := by decide +kernel
theorem dX7_append_10 : decode cX7_append 10 = .ok (.invokestatic 56, 3) := by decide +kernel
theorem dX7_append_13 : decode cX7_append 13 = .ok (.ifCond .ne 5, 3) := by decide +kernel
theorem dX7_append_16 : decode cX7_append 16 = .ok (.iconst (-1), 1) := by decide +kernel
theorem dX7_append_17 : decode cX7_append 17 = .ok (.ireturn, 1) := by decide +kernel
theorem dX7_append_18 : decode cX7_append 18 = .ok (.aload_n 0, 1) := by decide +kernel
theorem dX7_append_19 : decode cX7_append 19 = .ok (.getfield 36, 3) := by decide +kernel
theorem dX7_append_22 : decode cX7_append 22 = .ok (.sipush 160, 3) := by decide +kernel
theorem dX7_append_25 : decode cX7_append 25 = .ok (.if_icmp .ne 6, 3) := by decide +kernel
theorem dX7_append_28 : decode cX7_append 28 = .ok (.bipush (-3), 2) := by decide +kernel
theorem dX7_append_30 : decode cX7_append 30 = .ok (.ireturn, 1) := by decide +kernel
theorem dX7_append_31 : decode cX7_append 31 = .ok (.aload_n 0, 1) := by decide +kernel
theorem dX7_append_32 : decode cX7_append 32 = .ok (.getfield 19, 3) := by decide +kernel
theorem dX7_append_35 : decode cX7_append 35 = .ok (.aload_n 0, 1) := by decide +kernel
theorem dX7_append_36 : decode cX7_append 36 = .ok (.getfield 36, 3) := by decide +kernel
theorem dX7_append_39 : decode cX7_append 39 = .ok (.iload_n 1, 1) := by decide +kernel
theorem dX7_append_40 : decode cX7_append 40 = .ok (.iastore, 1) := by decide +kernel
theorem dX7_append_41 : decode cX7_append 41 = .ok (.aload_n 0, 1) := by decide +kernel
theorem dX7_append_42 : decode cX7_append 42 = .ok (.dup, 1) := by decide +kernel
theorem dX7_append_43 : decode cX7_append 43 = .ok (.getfield 36, 3) := by decide +kernel
theorem dX7_append_46 : decode cX7_append 46 = .ok (.iconst 1, 1) := by decide +kernel
theorem dX7_append_47 : decode cX7_append 47 = .ok (.iadd, 1) := by decide +kernel
theorem dX7_append_48 : decode cX7_append 48 = .ok (.putfield 36, 3) := by decide +kernel
theorem dX7_append_51 : decode cX7_append 51 = .ok (.aload_n 0, 1) := by decide +kernel
theorem dX7_append_52 : decode cX7_append 52 = .ok (.getfield 36, 3) := by decide +kernel
theorem dX7_append_55 : decode cX7_append 55 = .ok (.ireturn, 1) := by decide +kernel
theorem dX7_areObjects_0 : decode cX7_areObjects 0 = .ok (.aload_n 0, 1) := by decide +kernel
theorem dX7_areObjects_1 : decode cX7_areObjects 1 = .ok (.iload_n 1, 1) := by decide +kernel
theorem dX7_areObjects_2 : decode cX7_areObjects 2 = .ok (.invokevirtual 108, 3) := by decide +kernel
theorem dX7_areObjects_5 : decode cX7_areObjects 5 = .ok (.ifCond .eq 15, 3) := by decide +kernel
theorem dX7_areObjects_8 : decode cX7_areObjects 8 = .ok (.aload_n 0, 1) := by decide +kernel
theorem dX7_areObjects_9 : decode cX7_areObjects 9 = .ok (.iload_n 2, 1) := by decide +kernel
theorem dX7_areObjects_10 : decode cX7_areObjects 10 = .ok (.invokevirtual 108, 3) := by decide +kernel
theorem dX7_areObjects_13 : decode cX7_areObjects 13 = .ok (.ifCond .eq 7, 3) := by decide +kernel
theorem dX7_areObjects_16 : decode cX7_areObjects 16 = .ok (.iconst 1, 1) := by decide +kernel
theorem dX7_areObjects_17 : decode cX7_areObjects 17 = .ok (.goto 4, 3) := by decide +kernel
theorem dX7_areObjects_20 : decode cX7_areObjects 20 = .ok (.iconst 0, 1) := by decide +kernel
theorem dX7_areObjects_21 : decode cX7_areObjects 21 = .ok (.ireturn, 1) := by decide +kernel
theorem dX7_beginRun_0 : decode cX7_beginRun 0 = .ok (.iconst 0, 1) := by decide +kernel
theorem dX7_beginRun_1 : decode cX7_beginRun 1 = .ok (.istore_n 1, 1) := by decide +kernel
theorem dX7_beginRun_2 : decode cX7_beginRun 2 = .ok (.iload_n 1, 1) := by decide +kernel
theorem dX7_beginRun_3 : decode cX7_beginRun 3 = .ok (.bipush 10, 2) := by decide +kernel
theorem dX7_beginRun_5 : decode cX7_beginRun 5 = .ok (.if_icmp .ge 19, 3) := by decide +kernel
theorem dX7_beginRun_8 : decode cX7_beginRun 8 = .ok (.aload_n 0, 1) := by decide +kernel
theorem dX7_beginRun_9 : decode cX7_beginRun 9 = .ok (.getfield 7, 3) := by decide +kernel
theorem dX7_beginRun_12 : decode cX7_beginRun 12 = .ok (.bipush 71, 2) := by decide +kernel
theorem dX7_beginRun_14 : decode cX7_beginRun 14 = .ok (.iload_n 1, 1) := by decide +kernel
theorem dX7_beginRun_15 : decode cX7_beginRun 15 = .ok (.iadd, 1) := by decide +kernel
theorem dX7_beginRun_16 : decode cX7_beginRun 16 = .ok (.iconst 0, 1) := by decide +kernel
theorem dX7_beginRun_17 : decode cX7_beginRun 17 = .ok (.iastore, 1) := by decide +kernel
theorem dX7_beginRun_18 : decode cX7_beginRun 18 = .ok (.iinc 1 1, 3) := by decide +kernel
theorem dX7_beginRun_21 : decode cX7_beginRun 21 = .ok (.goto (-19), 3) := by decide +kernel
theorem dX7_beginRun_24 : decode cX7_beginRun 24 = .ok (.iconst 0, 1) := by decide +kernel
theorem dX7_beginRun_25 : decode cX7_beginRun 25 = .ok (.istore_n 1, 1) := by decide +kernel
theorem dX7_beginRun_26 : decode cX7_beginRun 26 = .ok (.iload_n 1, 1) := by decide +kernel
theorem dX7_beginRun_27 : decode cX7_beginRun 27 = .ok (.aload_n 0, 1) := by decide +kernel
theorem dX7_beginRun_28 : decode cX7_beginRun 28 = .ok (.getfield 7, 3) := by decide +kernel
theorem dX7_beginRun_31 : decode cX7_beginRun 31 = .ok (.bipush 41, 2) := by decide +kernel
theorem dX7_beginRun_33 : decode cX7_beginRun 33 = .ok (.iaload, 1) := by decide +kernel
theorem dX7_beginRun_34 : decode cX7_beginRun 34 = .ok (.if_icmp .ge 46, 3) := by decide +kernel
theorem dX7_beginRun_37 : decode cX7_beginRun 37 = .ok (.aload_n 0, 1) := by decide +kernel
theorem dX7_beginRun_38 : decode cX7_beginRun 38 = .ok (.getfield 7, 3) := by decide +kernel
theorem dX7_beginRun_41 : decode cX7_beginRun 41 = .ok (.bipush 71, 2) := by decide +kernel
theorem dX7_beginRun_43 : decode cX7_beginRun 43 = .ok (.aload_n 0, 1) := by decide +kernel
theorem dX7_beginRun_44 : decode cX7_beginRun 44 = .ok (.getfield 7, 3) := by decide +kernel
theorem dX7_beginRun_47 : decode cX7_beginRun 47 = .ok (.bipush 42, 2) := by decide +kernel
theorem dX7_beginRun_49 : decode cX7_beginRun 49 = .ok (.iconst 2, 1) := by decide +kernel
theorem dX7_beginRun_50 : decode cX7_beginRun 50 = .ok (.iload_n 1, 1) := by decide +kernel
theorem dX7_beginRun_51 : decode cX7_beginRun 51 = .ok (.imul, 1) := by decide +kernel
theorem dX7_beginRun_52 : decode cX7_beginRun 52 = .ok (.iadd, 1) := by decide +kernel
theorem dX7_beginRun_53 : decode cX7_beginRun 53 = .ok (.iaload, 1) := by decide +kernel
theorem dX7_beginRun_54 : decode cX7_beginRun 54 = .ok (.iadd, 1) := by decide +kernel
theorem dX7_beginRun_55 : decode cX7_beginRun 55 = .ok (.dup2, 1) := by decide +kernel
theorem dX7_beginRun_56 : decode cX7_beginRun 56 = .ok (.iaload, 1) := by decide +kernel
theorem dX7_beginRun_57 : decode cX7_beginRun 57 = .ok (.iconst 1, 1) := by decide +kernel
theorem dX7_beginRun_58 : decode cX7_beginRun 58 = .ok (.aload_n 0, 1) := by decide +kernel
theorem dX7_beginRun_59 : decode cX7_beginRun 59 = .ok (.getfield 7, 3) := by decide +kernel
theorem dX7_beginRun_62 : decode cX7_beginRun 62 = .ok (.bipush 42, 2) := by decide +kernel
theorem dX7_beginRun_64 : decode cX7_beginRun 64 = .ok (.iconst 2, 1) := by decide +kernel
theorem dX7_beginRun_65 : decode cX7_beginRun 65 = .ok (.iload_n 1, 1) := by decide +kernel
theorem dX7_beginRun_66 : decode cX7_beginRun 66 = .ok (.imul, 1) := by decide +kernel
theorem dX7_beginRun_67 : decode cX7_beginRun 67 = .ok (.iadd, 1) := by decide +kernel
theorem dX7_beginRun_68 : decode cX7_beginRun 68 = .ok (.iconst 1, 1) := by decide +kernel
theorem dX7_beginRun_69 : decode cX7_beginRun 69 = .ok (.iadd, 1) := by decide +kernel
theorem dX7_beginRun_70 : decode cX7_beginRun 70 = .ok (.iaload, 1) := by decide +kernel
theorem dX7_beginRun_71 : decode cX7_beginRun 71 = .ok (.ishl, 1) := by decide +kernel
theorem dX7_beginRun_72 : decode cX7_beginRun 72 = .ok (.ior, 1) := by decide +kernel
theorem dX7_beginRun_73 : decode cX7_beginRun 73 = .ok (.iastore, 1) := by decide +kernel
theorem dX7_beginRun_74 : decode cX7_beginRun 74 = .ok (.iinc 1 1, 3) := by decide +kernel
theorem dX7_beginRun_77 : decode cX7_beginRun 77 = .ok (.goto (-51), 3) := by decide +kernel
theorem dX7_beginRun_80 : decode cX7_beginRun 80 = .ok (.return_, 1) := by decide +kernel
theorem dX7_behaviour_0 : decode cX7_behaviour 0 = .ok (.aload_n 0, 1) := by decide +kernel
theorem dX7_behaviour_1 : decode cX7_behaviour 1 = .ok (.iconst 0, 1) := by decide +kernel
theorem dX7_behaviour_2 : decode cX7_behaviour 2 = .ok (.putfield 32, 3) := by decide +kernel
theorem dX7_behaviour_5 : decode cX7_behaviour 5 = .ok (.aload_n 0, 1) := by decide +kernel
theorem dX7_behaviour_6 : decode cX7_behaviour 6 = .ok (.iload_n 1, 1) := by decide +kernel
theorem dX7_behaviour_7 : decode cX7_behaviour 7 = .ok (.iconst 0, 1) := by decide +kernel
theorem dX7_behaviour_8 : decode cX7_behaviour 8 = .ok (.invokevirtual 112, 3) := by decide +kernel
theorem dX7_behaviour_11 : decode cX7_behaviour 11 = .ok (.ifCond .eq 15, 3) := by decide +kernel
theorem dX7_behaviour_14 : decode cX7_behaviour 14 = .ok (.aload_n 0, 1) := by decide +kernel
theorem dX7_behaviour_15 : decode cX7_behaviour 15 = .ok (.getfield 7, 3) := by decide +kernel
theorem dX7_behaviour_18 : decode cX7_behaviour 18 = .ok (.bipush 11, 2) := by decide +kernel
theorem dX7_behaviour_20 : decode cX7_behaviour 20 = .ok (.iload_n 1, 1) := by decide +kernel
theorem dX7_behaviour_21 : decode cX7_behaviour 21 = .ok (.iadd, 1) := by decide +kernel
theorem dX7_behaviour_22 : decode cX7_behaviour 22 = .ok (.iaload, 1) := by decide +kernel
theorem dX7_behaviour_23 : decode cX7_behaviour 23 = .ok (.goto 4, 3) := by decide +kernel
theorem dX7_behaviour_26 : decode cX7_behaviour 26 = .ok (.iconst (-1), 1) := by decide +kernel
theorem dX7_behaviour_27 : decode cX7_behaviour 27 = .ok (.ireturn, 1) := by decide +kernel
theorem dX7_bitCount_0 : decode cX7_bitCount 0 = .ok (.iconst 0, 1) := by decide +kernel
theorem dX7_bitCount_1 : decode cX7_bitCount 1 = .ok (.istore_n 1, 1) := by decide +kernel
theorem dX7_bitCount_2 : decode cX7_bitCount 2 = .ok (.iconst 0, 1) := by decide +kernel
theorem dX7_bitCount_3 : decode cX7_bitCount 3 = .ok (.istore_n 2, 1) := by decide +kernel
theorem dX7_bitCount_4 : decode cX7_bitCount 4 = .ok (.iload_n 2, 1) := by decide +kernel
theorem dX7_bitCount_5 : decode cX7_bitCount 5 = .ok (.bipush 10, 2) := by decide +kernel
theorem dX7_bitCount_7 : decode cX7_bitCount 7 = .ok (.if_icmp .ge 17, 3) := by decide +kernel
theorem dX7_bitCount_10 : decode cX7_bitCount 10 = .ok (.iload_n 1, 1) := by decide +kernel
theorem dX7_bitCount_11 : decode cX7_bitCount 11 = .ok (.iload_n 0, 1) := by decide +kernel
theorem dX7_bitCount_12 : decode cX7_bitCount 12 = .ok (.iload_n 2, 1) := by decide +kernel
theorem dX7_bitCount_13 : decode cX7_bitCount 13 = .ok (.ishr, 1) := by decide +kernel
theorem dX7_bitCount_14 : decode cX7_bitCount 14 = .ok (.iconst 1, 1) := by decide +kernel
theorem dX7_bitCount_15 : decode cX7_bitCount 15 = .ok (.iand, 1) := by decide +kernel
theorem dX7_bitCount_16 : decode cX7_bitCount 16 = .ok (.iadd, 1) := by decide +kernel
theorem dX7_bitCount_17 : decode cX7_bitCount 17 = .ok (.istore_n 1, 1) := by decide +kernel
theorem dX7_bitCount_18 : decode cX7_bitCount 18 = .ok (.iinc 2 1, 3) := by decide +kernel
theorem dX7_bitCount_21 : decode cX7_bitCount 21 = .ok (.goto (-17), 3) := by decide +kernel
theorem dX7_bitCount_24 : decode cX7_bitCount 24 = .ok (.iload_n 1, 1) := by decide +kernel
theorem dX7_bitCount_25 : decode cX7_bitCount 25 = .ok (.ireturn, 1) := by decide +kernel
theorem dX7_change_0 : decode cX7_change 0 = .ok (.aload_n 0, 1) := by decide +kernel
theorem dX7_change_1 : decode cX7_change 1 = .ok (.getfield 7, 3) := by decide +kernel
theorem dX7_change_4 : decode cX7_change 4 = .ok (.iload_n 1, 1) := by decide +kernel
theorem dX7_change_5 : decode cX7_change 5 = .ok (.iaload, 1) := by decide +kernel
theorem dX7_change_6 : decode cX7_change 6 = .ok (.istore_n 3, 1) := by decide +kernel
theorem dX7_change_7 : decode cX7_change 7 = .ok (.iload_n 3, 1) := by decide +kernel
theorem dX7_change_8 : decode cX7_change 8 = .ok (.iload_n 2, 1) := by decide +kernel
theorem dX7_change_9 : decode cX7_change 9 = .ok (.if_icmp .ne 6, 3) := by decide +kernel
theorem dX7_change_12 : decode cX7_change 12 = .ok (.bipush (-2), 2) := by decide +kernel
theorem dX7_change_14 : decode cX7_change 14 = .ok (.ireturn, 1) := by decide +kernel
theorem dX7_change_15 : decode cX7_change 15 = .ok (.aload_n 0, 1) := by decide +kernel
theorem dX7_change_16 : decode cX7_change 16 = .ok (.invokevirtual 99, 3) := by decide +kernel
theorem dX7_change_19 : decode cX7_change 19 = .ok (.aload_n 0, 1) := by decide +kernel
theorem dX7_change_20 : decode cX7_change 20 = .ok (.getfield 7, 3) := by decide +kernel
theorem dX7_change_23 : decode cX7_change 23 = .ok (.iload_n 1, 1) := by decide +kernel
theorem dX7_change_24 : decode cX7_change 24 = .ok (.iload_n 2, 1) := by decide +kernel
theorem dX7_change_25 : decode cX7_change 25 = .ok (.iastore, 1) := by decide +kernel
theorem dX7_change_26 : decode cX7_change 26 = .ok (.aload_n 0, 1) := by decide +kernel
theorem dX7_change_27 : decode cX7_change 27 = .ok (.invokevirtual 102, 3) := by decide +kernel
theorem dX7_change_30 : decode cX7_change 30 = .ok (.iload_n 3, 1) := by decide +kernel
theorem dX7_change_31 : decode cX7_change 31 = .ok (.ireturn, 1) := by decide +kernel
theorem dX7_characterAt_0 : decode cX7_characterAt 0 = .ok (.iload_n 1, 1) := by decide +kernel
theorem dX7_characterAt_1 : decode cX7_characterAt 1 = .ok (.aload_n 0, 1) := by decide +kernel
theorem dX7_characterAt_2 : decode cX7_characterAt 2 = .ok (.getfield 36, 3) := by decide +kernel
theorem dX7_characterAt_5 : decode cX7_characterAt 5 = .ok (.if_icmp .ge 12, 3) := by decide +kernel
theorem dX7_characterAt_8 : decode cX7_characterAt 8 = .ok (.aload_n 0, 1) := by decide +kernel
theorem dX7_characterAt_9 : decode cX7_characterAt 9 = .ok (.getfield 19, 3) := by decide +kernel
theorem dX7_characterAt_12 : decode cX7_characterAt 12 = .ok (.iload_n 1, 1) := by decide +kernel
theorem dX7_characterAt_13 : decode cX7_characterAt 13 = .ok (.iaload, 1) := by decide +kernel
theorem dX7_characterAt_14 : decode cX7_characterAt 14 = .ok (.goto 4, 3) := by decide +kernel
theorem dX7_characterAt_17 : decode cX7_characterAt 17 = .ok (.iconst (-1), 1) := by decide +kernel
theorem dX7_characterAt_18 : decode cX7_characterAt 18 = .ok (.ireturn, 1) := by decide +kernel
theorem dX7_clearText_0 : decode cX7_clearText 0 = .ok (.aload_n 0, 1) := by decide +kernel
theorem dX7_clearText_1 : decode cX7_clearText 1 = .ok (.iconst 0, 1) := by decide +kernel
theorem dX7_clearText_2 : decode cX7_clearText 2 = .ok (.putfield 32, 3) := by decide +kernel
theorem dX7_clearText_5 : decode cX7_clearText 5 = .ok (.aload_n 0, 1) := by decide +kernel
theorem dX7_clearText_6 : decode cX7_clearText 6 = .ok (.getfield 36, 3) := by decide +kernel
theorem dX7_clearText_9 : decode cX7_clearText 9 = .ok (.istore_n 1, 1) := by decide +kernel
theorem dX7_clearText_10 : decode cX7_clearText 10 = .ok (.aload_n 0, 1) := by decide +kernel
theorem dX7_clearText_11 : decode cX7_clearText 11 = .ok (.iconst 0, 1) := by decide +kernel
theorem dX7_clearText_12 : decode cX7_clearText 12 = .ok (.putfield 36, 3) := by decide +kernel
theorem dX7_clearText_15 : decode cX7_clearText 15 = .ok (.iload_n 1, 1) := by decide +kernel
theorem dX7_clearText_16 : decode cX7_clearText 16 = .ok (.ireturn, 1) := by decide +kernel
theorem dX7_coarselyMayHold_0 : decode cX7_coarselyMayHold 0 = .ok (.aload_n 0, 1) := by decide +kernel
theorem dX7_coarselyMayHold_1 : decode cX7_coarselyMayHold 1 = .ok (.iconst 0, 1) := by decide +kernel
theorem dX7_coarselyMayHold_2 : decode cX7_coarselyMayHold 2 = .ok (.putfield 32, 3) := by decide +kernel
theorem dX7_coarselyMayHold_5 : decode cX7_coarselyMayHold 5 = .ok (.aload_n 0, 1) := by decide +kernel
theorem dX7_coarselyMayHold_6 : decode cX7_coarselyMayHold 6 = .ok (.iload_n 1, 1) := by decide +kernel
theorem dX7_coarselyMayHold_7 : decode cX7_coarselyMayHold 7 = .ok (.iload_n 2, 1) := by decide +kernel
theorem dX7_coarselyMayHold_8 : decode cX7_coarselyMayHold 8 = .ok (.invokevirtual 166, 3) := by decide +kernel
theorem dX7_coarselyMayHold_11 : decode cX7_coarselyMayHold 11 = .ok (.ifCond .ne 5, 3) := by decide +kernel
theorem dX7_coarselyMayHold_14 : decode cX7_coarselyMayHold 14 = .ok (.iconst (-1), 1) := by decide +kernel
theorem dX7_coarselyMayHold_15 : decode cX7_coarselyMayHold 15 = .ok (.ireturn, 1) := by decide +kernel
theorem dX7_coarselyMayHold_16 : decode cX7_coarselyMayHold 16 = .ok (.aload_n 0, 1) := by decide +kernel
theorem dX7_coarselyMayHold_17 : decode cX7_coarselyMayHold 17 = .ok (.iconst 0, 1) := by decide +kernel
theorem dX7_coarselyMayHold_18 : decode cX7_coarselyMayHold 18 = .ok (.invokevirtual 163, 3) := by decide +kernel
theorem dX7_coarselyMayHold_21 : decode cX7_coarselyMayHold 21 = .ok (.iconst 1, 1) := by decide +kernel
theorem dX7_coarselyMayHold_22 : decode cX7_coarselyMayHold 22 = .ok (.istore_n 3, 1) := by decide +kernel
theorem dX7_coarselyMayHold_23 : decode cX7_coarselyMayHold 23 = .ok (.iload_n 3, 1) := by decide +kernel
theorem dX7_coarselyMayHold_24 : decode cX7_coarselyMayHold 24 = .ok (.ifCond .eq 76, 3) := by decide +kernel
theorem dX7_coarselyMayHold_27 : decode cX7_coarselyMayHold 27 = .ok (.aload_n 0, 1) := by decide +kernel
theorem dX7_coarselyMayHold_28 : decode cX7_coarselyMayHold 28 = .ok (.invokevirtual 185, 3) := by decide +kernel
theorem dX7_coarselyMayHold_31 : decode cX7_coarselyMayHold 31 = .ok (.istore 4, 2) := by decide +kernel
theorem dX7_coarselyMayHold_33 : decode cX7_coarselyMayHold 33 = .ok (.iconst 0, 1) := by decide +kernel
theorem dX7_coarselyMayHold_34 : decode cX7_coarselyMayHold 34 = .ok (.istore 5, 2) := by decide +kernel
theorem dX7_coarselyMayHold_36 : decode cX7_coarselyMayHold 36 = .ok (.iload 5, 2) := by decide +kernel
theorem dX7_coarselyMayHold_38 : decode cX7_coarselyMayHold 38 = .ok (.bipush 100, 2) := by decide +kernel
theorem dX7_coarselyMayHold_40 : decode cX7_coarselyMayHold 40 = .ok (.if_icmp .ge 34, 3) := by decide +kernel
theorem dX7_coarselyMayHold_43 : decode cX7_coarselyMayHold 43 = .ok (.aload_n 0, 1) := by decide +kernel
theorem dX7_coarselyMayHold_44 : decode cX7_coarselyMayHold 44 = .ok (.getfield 22, 3) := by decide +kernel
theorem dX7_coarselyMayHold_47 : decode cX7_coarselyMayHold 47 = .ok (.iload 5, 2) := by decide +kernel
theorem dX7_coarselyMayHold_49 : decode cX7_coarselyMayHold 49 = .ok (.aload_n 0, 1) := by decide +kernel
theorem dX7_coarselyMayHold_50 : decode cX7_coarselyMayHold 50 = .ok (.getfield 22, 3) := by decide +kernel
theorem dX7_coarselyMayHold_53 : decode cX7_coarselyMayHold 53 = .ok (.iload 5, 2) := by decide +kernel
theorem dX7_coarselyMayHold_55 : decode cX7_coarselyMayHold 55 = .ok (.iaload, 1) := by decide +kernel
theorem dX7_coarselyMayHold_56 : decode cX7_coarselyMayHold 56 = .ok (.bipush (-9), 2) := by decide +kernel
theorem dX7_coarselyMayHold_58 : decode cX7_coarselyMayHold 58 = .ok (.if_icmp .ne 8, 3) := by decide +kernel
theorem dX7_coarselyMayHold_61 : decode cX7_coarselyMayHold 61 = .ok (.bipush (-9), 2) := by decide +kernel
theorem dX7_coarselyMayHold_63 : decode cX7_coarselyMayHold 63 = .ok (.goto 4, 3) := by decide +kernel
theorem dX7_coarselyMayHold_66 : decode cX7_coarselyMayHold 66 = .ok (.iconst 0, 1) := by decide +kernel
theorem dX7_coarselyMayHold_67 : decode cX7_coarselyMayHold 67 = .ok (.iastore, 1) := by decide +kernel
theorem dX7_coarselyMayHold_68 : decode cX7_coarselyMayHold 68 = .ok (.iinc 5 1, 3) := by decide +kernel
theorem dX7_coarselyMayHold_71 : decode cX7_coarselyMayHold 71 = .ok (.goto (-35), 3) := by decide +kernel
theorem dX7_coarselyMayHold_74 : decode cX7_coarselyMayHold 74 = .ok (.aload_n 0, 1) := by decide +kernel
theorem dX7_coarselyMayHold_75 : decode cX7_coarselyMayHold 75 = .ok (.iconst 1, 1) := by decide +kernel
theorem dX7_coarselyMayHold_76 : decode cX7_coarselyMayHold 76 = .ok (.invokevirtual 157, 3) := by decide +kernel
theorem dX7_coarselyMayHold_79 : decode cX7_coarselyMayHold 79 = .ok (.istore 5, 2) := by decide +kernel
theorem dX7_coarselyMayHold_81 : decode cX7_coarselyMayHold 81 = .ok (.iload 4, 2) := by decide +kernel
theorem dX7_coarselyMayHold_83 : decode cX7_coarselyMayHold 83 = .ok (.ifCond .ne 8, 3) := by decide +kernel
theorem dX7_coarselyMayHold_86 : decode cX7_coarselyMayHold 86 = .ok (.iload 5, 2) := by decide +kernel
theorem dX7_coarselyMayHold_88 : decode cX7_coarselyMayHold 88 = .ok (.ifCond .eq 7, 3) := by decide +kernel
theorem dX7_coarselyMayHold_91 : decode cX7_coarselyMayHold 91 = .ok (.iconst 1, 1) := by decide +kernel
theorem dX7_coarselyMayHold_92 : decode cX7_coarselyMayHold 92 = .ok (.goto 4, 3) := by decide +kernel
theorem dX7_coarselyMayHold_95 : decode cX7_coarselyMayHold 95 = .ok (.iconst 0, 1) := by decide +kernel
theorem dX7_coarselyMayHold_96 : decode cX7_coarselyMayHold 96 = .ok (.istore_n 3, 1) := by decide +kernel
theorem dX7_coarselyMayHold_97 : decode cX7_coarselyMayHold 97 = .ok (.goto (-74), 3) := by decide +kernel
theorem dX7_coarselyMayHold_100 : decode cX7_coarselyMayHold 100 = .ok (.aload_n 0, 1) := by decide +kernel
theorem dX7_coarselyMayHold_101 : decode cX7_coarselyMayHold 101 = .ok (.getfield 22, 3) := by decide +kernel
theorem dX7_coarselyMayHold_104 : decode cX7_coarselyMayHold 104 = .ok (.bipush 10, 2) := by decide +kernel
theorem dX7_coarselyMayHold_106 : decode cX7_coarselyMayHold 106 = .ok (.iload_n 1, 1) := by decide +kernel
theorem dX7_coarselyMayHold_107 : decode cX7_coarselyMayHold 107 = .ok (.imul, 1) := by decide +kernel
theorem dX7_coarselyMayHold_108 : decode cX7_coarselyMayHold 108 = .ok (.iload_n 2, 1) := by decide +kernel
theorem dX7_coarselyMayHold_109 : decode cX7_coarselyMayHold 109 = .ok (.iadd, 1) := by decide +kernel
theorem dX7_coarselyMayHold_110 : decode cX7_coarselyMayHold 110 = .ok (.iaload, 1) := by decide +kernel
theorem dX7_coarselyMayHold_111 : decode cX7_coarselyMayHold 111 = .ok (.bipush (-9), 2) := by decide +kernel
theorem dX7_coarselyMayHold_113 : decode cX7_coarselyMayHold 113 = .ok (.if_icmp .ne 7, 3) := by decide +kernel
theorem dX7_coarselyMayHold_116 : decode cX7_coarselyMayHold 116 = .ok (.iconst 0, 1) := by decide +kernel
theorem dX7_coarselyMayHold_117 : decode cX7_coarselyMayHold 117 = .ok (.goto 4, 3) := by decide +kernel
theorem dX7_coarselyMayHold_120 : decode cX7_coarselyMayHold 120 = .ok (.iconst 1, 1) := by decide +kernel
theorem dX7_coarselyMayHold_121 : decode cX7_coarselyMayHold 121 = .ok (.ireturn, 1) := by decide +kernel
theorem dX7_create_0 : decode cX7_create 0 = .ok (.aload_n 0, 1) := by decide +kernel
theorem dX7_create_1 : decode cX7_create 1 = .ok (.iconst 0, 1) := by decide +kernel
theorem dX7_create_2 : decode cX7_create 2 = .ok (.putfield 32, 3) := by decide +kernel
theorem dX7_create_5 : decode cX7_create 5 = .ok (.aload_n 0, 1) := by decide +kernel
theorem dX7_create_6 : decode cX7_create 6 = .ok (.iload_n 1, 1) := by decide +kernel
theorem dX7_create_7 : decode cX7_create 7 = .ok (.iconst 2, 1) := by decide +kernel
theorem dX7_create_8 : decode cX7_create 8 = .ok (.invokevirtual 119, 3) := by decide +kernel
theorem dX7_create_11 : decode cX7_create 11 = .ok (.ifCond .eq 12, 3) := by decide +kernel
theorem dX7_create_14 : decode cX7_create 14 = .ok (.aload_n 0, 1) := by decide +kernel
theorem dX7_create_15 : decode cX7_create 15 = .ok (.iload_n 2, 1) := by decide +kernel
theorem dX7_create_16 : decode cX7_create 16 = .ok (.iconst 3, 1) := by decide +kernel
theorem dX7_create_17 : decode cX7_create 17 = .ok (.invokevirtual 112, 3) := by decide +kernel
theorem dX7_create_20 : decode cX7_create 20 = .ok (.ifCond .ne 5, 3) := by decide +kernel
theorem dX7_create_23 : decode cX7_create 23 = .ok (.iconst (-1), 1) := by decide +kernel
theorem dX7_create_24 : decode cX7_create 24 = .ok (.ireturn, 1) := by decide +kernel
theorem dX7_create_25 : decode cX7_create 25 = .ok (.aload_n 0, 1) := by decide +kernel
theorem dX7_create_26 : decode cX7_create 26 = .ok (.iload_n 1, 1) := by decide +kernel
theorem dX7_create_27 : decode cX7_create 27 = .ok (.iload_n 2, 1) := by decide +kernel
theorem dX7_create_28 : decode cX7_create 28 = .ok (.invokevirtual 197, 3) := by decide +kernel
theorem dX7_create_31 : decode cX7_create 31 = .ok (.ifCond .ne 6, 3) := by decide +kernel
theorem dX7_create_34 : decode cX7_create 34 = .ok (.bipush (-2), 2) := by decide +kernel
theorem dX7_create_36 : decode cX7_create 36 = .ok (.ireturn, 1) := by decide +kernel
theorem dX7_create_37 : decode cX7_create 37 = .ok (.aload_n 0, 1) := by decide +kernel
theorem dX7_create_38 : decode cX7_create 38 = .ok (.getfield 7, 3) := by decide +kernel
theorem dX7_create_41 : decode cX7_create 41 = .ok (.bipush 11, 2) := by decide +kernel
theorem dX7_create_43 : decode cX7_create 43 = .ok (.iload_n 2, 1) := by decide +kernel
theorem dX7_create_44 : decode cX7_create 44 = .ok (.iadd, 1) := by decide +kernel
theorem dX7_create_45 : decode cX7_create 45 = .ok (.iaload, 1) := by decide +kernel
theorem dX7_create_46 : decode cX7_create 46 = .ok (.istore_n 3, 1) := by decide +kernel
theorem dX7_create_47 : decode cX7_create 47 = .ok (.aload_n 0, 1) := by decide +kernel
theorem dX7_create_48 : decode cX7_create 48 = .ok (.iload_n 1, 1) := by decide +kernel
theorem dX7_create_49 : decode cX7_create 49 = .ok (.iload_n 3, 1) := by decide +kernel
theorem dX7_create_50 : decode cX7_create 50 = .ok (.invokevirtual 200, 3) := by decide +kernel
theorem dX7_create_53 : decode cX7_create 53 = .ok (.istore 4, 2) := by decide +kernel
theorem dX7_create_55 : decode cX7_create 55 = .ok (.iload 4, 2) := by decide +kernel
theorem dX7_create_57 : decode cX7_create 57 = .ok (.aload_n 0, 1) := by decide +kernel
theorem dX7_create_58 : decode cX7_create 58 = .ok (.getfield 7, 3) := by decide +kernel
theorem dX7_create_61 : decode cX7_create 61 = .ok (.bipush 71, 2) := by decide +kernel
theorem dX7_create_63 : decode cX7_create 63 = .ok (.iload_n 2, 1) := by decide +kernel
theorem dX7_create_64 : decode cX7_create 64 = .ok (.iadd, 1) := by decide +kernel
theorem dX7_create_65 : decode cX7_create 65 = .ok (.iaload, 1) := by decide +kernel
theorem dX7_create_66 : decode cX7_create 66 = .ok (.aload_n 0, 1) := by decide +kernel
theorem dX7_create_67 : decode cX7_create 67 = .ok (.getfield 7, 3) := by decide +kernel
theorem dX7_create_70 : decode cX7_create 70 = .ok (.bipush 71, 2) := by decide +kernel
theorem dX7_create_72 : decode cX7_create 72 = .ok (.iload_n 3, 1) := by decide +kernel
theorem dX7_create_73 : decode cX7_create 73 = .ok (.iadd, 1) := by decide +kernel
theorem dX7_create_74 : decode cX7_create 74 = .ok (.iaload, 1) := by decide +kernel
theorem dX7_create_75 : decode cX7_create 75 = .ok (.iconst (-1), 1) := by decide +kernel
theorem dX7_create_76 : decode cX7_create 76 = .ok (.ixor, 1) := by decide +kernel
theorem dX7_create_77 : decode cX7_create 77 = .ok (.iand, 1) := by decide +kernel
theorem dX7_create_78 : decode cX7_create 78 = .ok (.invokestatic 194, 3) := by decide +kernel
theorem dX7_create_81 : decode cX7_create 81 = .ok (.iadd, 1) := by decide +kernel
theorem dX7_create_82 : decode cX7_create 82 = .ok (.istore 4, 2) := by decide +kernel
theorem dX7_create_84 : decode cX7_create 84 = .ok (.aload_n 0, 1) := by decide +kernel
theorem dX7_create_85 : decode cX7_create 85 = .ok (.getfield 7, 3) := by decide +kernel
theorem dX7_create_88 : decode cX7_create 88 = .ok (.bipush 71, 2) := by decide +kernel
theorem dX7_create_90 : decode cX7_create 90 = .ok (.iload_n 3, 1) := by decide +kernel
theorem dX7_create_91 : decode cX7_create 91 = .ok (.iadd, 1) := by decide +kernel
theorem dX7_create_92 : decode cX7_create 92 = .ok (.dup2, 1) := by decide +kernel
theorem dX7_create_93 : decode cX7_create 93 = .ok (.iaload, 1) := by decide +kernel
theorem dX7_create_94 : decode cX7_create 94 = .ok (.aload_n 0, 1) := by decide +kernel
theorem dX7_create_95 : decode cX7_create 95 = .ok (.getfield 7, 3) := by decide +kernel
theorem dX7_create_98 : decode cX7_create 98 = .ok (.bipush 71, 2) := by decide +kernel
theorem dX7_create_100 : decode cX7_create 100 = .ok (.iload_n 2, 1) := by decide +kernel
theorem dX7_create_101 : decode cX7_create 101 = .ok (.iadd, 1) := by decide +kernel
theorem dX7_create_102 : decode cX7_create 102 = .ok (.iaload, 1) := by decide +kernel
theorem dX7_create_103 : decode cX7_create 103 = .ok (.ior, 1) := by decide +kernel
theorem dX7_create_104 : decode cX7_create 104 = .ok (.iastore, 1) := by decide +kernel
theorem dX7_create_105 : decode cX7_create 105 = .ok (.iload 4, 2) := by decide +kernel
theorem dX7_create_107 : decode cX7_create 107 = .ok (.ireturn, 1) := by decide +kernel
theorem dX7_creator_0 : decode cX7_creator 0 = .ok (.iconst 0, 1) := by decide +kernel
theorem dX7_creator_1 : decode cX7_creator 1 = .ok (.istore 4, 2) := by decide +kernel
theorem dX7_creator_3 : decode cX7_creator 3 = .ok (.iload 4, 2) := by decide +kernel
theorem dX7_creator_5 : decode cX7_creator 5 = .ok (.aload_n 0, 1) := by decide +kernel
theorem dX7_creator_6 : decode cX7_creator 6 = .ok (.getfield 7, 3) := by decide +kernel
theorem dX7_creator_9 : decode cX7_creator 9 = .ok (.iconst 0, 1) := by decide +kernel
theorem dX7_creator_10 : decode cX7_creator 10 = .ok (.iaload, 1) := by decide +kernel
theorem dX7_creator_11 : decode cX7_creator 11 = .ok (.if_icmp .ge 56, 3) := by decide +kernel
theorem dX7_creator_14 : decode cX7_creator 14 = .ok (.aload_n 0, 1) := by decide +kernel
theorem dX7_creator_15 : decode cX7_creator 15 = .ok (.iload_n 1, 1) := by decide +kernel
theorem dX7_creator_16 : decode cX7_creator 16 = .ok (.iconst 2, 1) := by decide +kernel
theorem dX7_creator_17 : decode cX7_creator 17 = .ok (.invokevirtual 119, 3) := by decide +kernel
theorem dX7_creator_20 : decode cX7_creator 20 = .ok (.ifCond .eq 47, 3) := by decide +kernel
theorem dX7_creator_23 : decode cX7_creator 23 = .ok (.aload_n 0, 1) := by decide +kernel
theorem dX7_creator_24 : decode cX7_creator 24 = .ok (.iload 4, 2) := by decide +kernel
theorem dX7_creator_26 : decode cX7_creator 26 = .ok (.iconst 3, 1) := by decide +kernel
theorem dX7_creator_27 : decode cX7_creator 27 = .ok (.invokevirtual 112, 3) := by decide +kernel
theorem dX7_creator_30 : decode cX7_creator 30 = .ok (.ifCond .eq 31, 3) := by decide +kernel
theorem dX7_creator_33 : decode cX7_creator 33 = .ok (.aload_n 0, 1) := by decide +kernel
theorem dX7_creator_34 : decode cX7_creator 34 = .ok (.getfield 7, 3) := by decide +kernel
theorem dX7_creator_37 : decode cX7_creator 37 = .ok (.bipush 11, 2) := by decide +kernel
theorem dX7_creator_39 : decode cX7_creator 39 = .ok (.iload 4, 2) := by decide +kernel
theorem dX7_creator_41 : decode cX7_creator 41 = .ok (.iadd, 1) := by decide +kernel
theorem dX7_creator_42 : decode cX7_creator 42 = .ok (.iaload, 1) := by decide +kernel
theorem dX7_creator_43 : decode cX7_creator 43 = .ok (.iload_n 2, 1) := by decide +kernel
theorem dX7_creator_44 : decode cX7_creator 44 = .ok (.if_icmp .ne 17, 3) := by decide +kernel
theorem dX7_creator_47 : decode cX7_creator 47 = .ok (.aload_n 0, 1) := by decide +kernel
theorem dX7_creator_48 : decode cX7_creator 48 = .ok (.iload_n 1, 1) := by decide +kernel
theorem dX7_creator_49 : decode cX7_creator 49 = .ok (.iload 4, 2) := by decide +kernel
theorem dX7_creator_51 : decode cX7_creator 51 = .ok (.iload_n 3, 1) := by decide +kernel
theorem dX7_creator_52 : decode cX7_creator 52 = .ok (.invokevirtual 122, 3) := by decide +kernel
theorem dX7_creator_55 : decode cX7_creator 55 = .ok (.ifCond .eq 6, 3) := by decide +kernel
theorem dX7_creator_58 : decode cX7_creator 58 = .ok (.iload 4, 2) := by decide +kernel
theorem dX7_creator_60 : decode cX7_creator 60 = .ok (.ireturn, 1) := by decide +kernel
theorem dX7_creator_61 : decode cX7_creator 61 = .ok (.iinc 4 1, 3) := by decide +kernel
theorem dX7_creator_64 : decode cX7_creator 64 = .ok (.goto (-61), 3) := by decide +kernel
theorem dX7_creator_67 : decode cX7_creator 67 = .ok (.bipush (-9), 2) := by decide +kernel
theorem dX7_creator_69 : decode cX7_creator 69 = .ok (.ireturn, 1) := by decide +kernel
theorem dX7_derivationSize_0 : decode cX7_derivationSize 0 = .ok (.aload_n 0, 1) := by decide +kernel
theorem dX7_derivationSize_1 : decode cX7_derivationSize 1 = .ok (.iconst 0, 1) := by decide +kernel
theorem dX7_derivationSize_2 : decode cX7_derivationSize 2 = .ok (.putfield 32, 3) := by decide +kernel
theorem dX7_derivationSize_5 : decode cX7_derivationSize 5 = .ok (.aload_n 0, 1) := by decide +kernel
theorem dX7_derivationSize_6 : decode cX7_derivationSize 6 = .ok (.iload_n 1, 1) := by decide +kernel
theorem dX7_derivationSize_7 : decode cX7_derivationSize 7 = .ok (.iload_n 2, 1) := by decide +kernel
theorem dX7_derivationSize_8 : decode cX7_derivationSize 8 = .ok (.invokevirtual 166, 3) := by decide +kernel
theorem dX7_derivationSize_11 : decode cX7_derivationSize 11 = .ok (.ifCond .ne 5, 3) := by decide +kernel
theorem dX7_derivationSize_14 : decode cX7_derivationSize 14 = .ok (.iconst (-1), 1) := by decide +kernel
theorem dX7_derivationSize_15 : decode cX7_derivationSize 15 = .ok (.ireturn, 1) := by decide +kernel
theorem dX7_derivationSize_16 : decode cX7_derivationSize 16 = .ok (.aload_n 0, 1) := by decide +kernel
theorem dX7_derivationSize_17 : decode cX7_derivationSize 17 = .ok (.iload_n 1, 1) := by decide +kernel
theorem dX7_derivationSize_18 : decode cX7_derivationSize 18 = .ok (.iload_n 2, 1) := by decide +kernel
theorem dX7_derivationSize_19 : decode cX7_derivationSize 19 = .ok (.invokevirtual 169, 3) := by decide +kernel
theorem dX7_derivationSize_22 : decode cX7_derivationSize 22 = .ok (.bipush (-9), 2) := by decide +kernel
theorem dX7_derivationSize_24 : decode cX7_derivationSize 24 = .ok (.if_icmp .ne 6, 3) := by decide +kernel
theorem dX7_derivationSize_27 : decode cX7_derivationSize 27 = .ok (.bipush (-9), 2) := by decide +kernel
theorem dX7_derivationSize_29 : decode cX7_derivationSize 29 = .ok (.ireturn, 1) := by decide +kernel
theorem dX7_derivationSize_30 : decode cX7_derivationSize 30 = .ok (.iconst 0, 1) := by decide +kernel
theorem dX7_derivationSize_31 : decode cX7_derivationSize 31 = .ok (.istore_n 3, 1) := by decide +kernel
theorem dX7_derivationSize_32 : decode cX7_derivationSize 32 = .ok (.iload_n 3, 1) := by decide +kernel
theorem dX7_derivationSize_33 : decode cX7_derivationSize 33 = .ok (.bipush 100, 2) := by decide +kernel
theorem dX7_derivationSize_35 : decode cX7_derivationSize 35 = .ok (.if_icmp .ge 16, 3) := by decide +kernel
theorem dX7_derivationSize_38 : decode cX7_derivationSize 38 = .ok (.aload_n 0, 1) := by decide +kernel
theorem dX7_derivationSize_39 : decode cX7_derivationSize 39 = .ok (.getfield 25, 3) := by decide +kernel
theorem dX7_derivationSize_42 : decode cX7_derivationSize 42 = .ok (.iload_n 3, 1) := by decide +kernel
theorem dX7_derivationSize_43 : decode cX7_derivationSize 43 = .ok (.iconst 0, 1) := by decide +kernel
theorem dX7_derivationSize_44 : decode cX7_derivationSize 44 = .ok (.bastore, 1) := by decide +kernel
theorem dX7_derivationSize_45 : decode cX7_derivationSize 45 = .ok (.iinc 3 1, 3) := by decide +kernel
theorem dX7_derivationSize_48 : decode cX7_derivationSize 48 = .ok (.goto (-16), 3) := by decide +kernel
theorem dX7_derivationSize_51 : decode cX7_derivationSize 51 = .ok (.aload_n 0, 1) := by decide +kernel
theorem dX7_derivationSize_52 : decode cX7_derivationSize 52 = .ok (.iconst 0, 1) := by decide +kernel
theorem dX7_derivationSize_53 : decode cX7_derivationSize 53 = .ok (.putfield 172, 3) := by decide +kernel
theorem dX7_derivationSize_56 : decode cX7_derivationSize 56 = .ok (.aload_n 0, 1) := by decide +kernel
theorem dX7_derivationSize_57 : decode cX7_derivationSize 57 = .ok (.iload_n 1, 1) := by decide +kernel
theorem dX7_derivationSize_58 : decode cX7_derivationSize 58 = .ok (.iload_n 2, 1) := by decide +kernel
theorem dX7_derivationSize_59 : decode cX7_derivationSize 59 = .ok (.invokevirtual 175, 3) := by decide +kernel
theorem dX7_derivationSize_62 : decode cX7_derivationSize 62 = .ok (.iconst 0, 1) := by decide +kernel
theorem dX7_derivationSize_63 : decode cX7_derivationSize 63 = .ok (.istore_n 3, 1) := by decide +kernel
theorem dX7_derivationSize_64 : decode cX7_derivationSize 64 = .ok (.iconst 0, 1) := by decide +kernel
theorem dX7_derivationSize_65 : decode cX7_derivationSize 65 = .ok (.istore 4, 2) := by decide +kernel
theorem dX7_derivationSize_67 : decode cX7_derivationSize 67 = .ok (.iload 4, 2) := by decide +kernel
theorem dX7_derivationSize_69 : decode cX7_derivationSize 69 = .ok (.aload_n 0, 1) := by decide +kernel
theorem dX7_derivationSize_70 : decode cX7_derivationSize 70 = .ok (.getfield 172, 3) := by decide +kernel
theorem dX7_derivationSize_73 : decode cX7_derivationSize 73 = .ok (.if_icmp .ge 51, 3) := by decide +kernel
theorem dX7_derivationSize_76 : decode cX7_derivationSize 76 = .ok (.aload_n 0, 1) := by decide +kernel
theorem dX7_derivationSize_77 : decode cX7_derivationSize 77 = .ok (.getfield 22, 3) := by decide +kernel
theorem dX7_derivationSize_80 : decode cX7_derivationSize 80 = .ok (.aload_n 0, 1) := by decide +kernel
theorem dX7_derivationSize_81 : decode cX7_derivationSize 81 = .ok (.getfield 29, 3) := by decide +kernel
theorem dX7_derivationSize_84 : decode cX7_derivationSize 84 = .ok (.iload 4, 2) := by decide +kernel
theorem dX7_derivationSize_86 : decode cX7_derivationSize 86 = .ok (.iaload, 1) := by decide +kernel
theorem dX7_derivationSize_87 : decode cX7_derivationSize 87 = .ok (.iaload, 1) := by decide +kernel
theorem dX7_derivationSize_88 : decode cX7_derivationSize 88 = .ok (.ifCond .le 30, 3) := by decide +kernel
theorem dX7_derivationSize_91 : decode cX7_derivationSize 91 = .ok (.iinc 3 1, 3) := by decide +kernel
theorem dX7_derivationSize_94 : decode cX7_derivationSize 94 = .ok (.aload_n 0, 1) := by decide +kernel
theorem dX7_derivationSize_95 : decode cX7_derivationSize 95 = .ok (.aload_n 0, 1) := by decide +kernel
theorem dX7_derivationSize_96 : decode cX7_derivationSize 96 = .ok (.getfield 29, 3) := by decide +kernel
theorem dX7_derivationSize_99 : decode cX7_derivationSize 99 = .ok (.iload 4, 2) := by decide +kernel
theorem dX7_derivationSize_101 : decode cX7_derivationSize 101 = .ok (.iaload, 1) := by decide +kernel
theorem dX7_derivationSize_102 : decode cX7_derivationSize 102 = .ok (.bipush 10, 2) := by decide +kernel
theorem dX7_derivationSize_104 : decode cX7_derivationSize 104 = .ok (.idiv, 1) := by decide +kernel
theorem dX7_derivationSize_105 : decode cX7_derivationSize 105 = .ok (.aload_n 0, 1) := by decide +kernel
theorem dX7_derivationSize_106 : decode cX7_derivationSize 106 = .ok (.getfield 29, 3) := by decide +kernel
theorem dX7_derivationSize_109 : decode cX7_derivationSize 109 = .ok (.iload 4, 2) := by decide +kernel
theorem dX7_derivationSize_111 : decode cX7_derivationSize 111 = .ok (.iaload, 1) := by decide +kernel
theorem dX7_derivationSize_112 : decode cX7_derivationSize 112 = .ok (.bipush 10, 2) := by decide +kernel
theorem dX7_derivationSize_114 : decode cX7_derivationSize 114 = .ok (.irem, 1) := by decide +kernel
theorem dX7_derivationSize_115 : decode cX7_derivationSize 115 = .ok (.invokevirtual 179, 3) := by decide +kernel
theorem dX7_derivationSize_118 : decode cX7_derivationSize 118 = .ok (.iinc 4 1, 3) := by decide +kernel
theorem dX7_derivationSize_121 : decode cX7_derivationSize 121 = .ok (.goto (-54), 3) := by decide +kernel
theorem dX7_derivationSize_124 : decode cX7_derivationSize 124 = .ok (.iload_n 3, 1) := by decide +kernel
theorem dX7_derivationSize_125 : decode cX7_derivationSize 125 = .ok (.ireturn, 1) := by decide +kernel
theorem dX7_derive_0 : decode cX7_derive 0 = .ok (.bipush 10, 2) := by decide +kernel
theorem dX7_derive_2 : decode cX7_derive 2 = .ok (.iload_n 1, 1) := by decide +kernel
theorem dX7_derive_3 : decode cX7_derive 3 = .ok (.imul, 1) := by decide +kernel
theorem dX7_derive_4 : decode cX7_derive 4 = .ok (.iload_n 2, 1) := by decide +kernel
theorem dX7_derive_5 : decode cX7_derive 5 = .ok (.iadd, 1) := by decide +kernel
theorem dX7_derive_6 : decode cX7_derive 6 = .ok (.istore_n 3, 1) := by decide +kernel
theorem dX7_derive_7 : decode cX7_derive 7 = .ok (.aload_n 0, 1) := by decide +kernel
theorem dX7_derive_8 : decode cX7_derive 8 = .ok (.getfield 25, 3) := by decide +kernel
theorem dX7_derive_11 : decode cX7_derive 11 = .ok (.iload_n 3, 1) := by decide +kernel
theorem dX7_derive_12 : decode cX7_derive 12 = .ok (.baload, 1) := by decide +kernel
theorem dX7_derive_13 : decode cX7_derive 13 = .ok (.ifCond .ne 30, 3) := by decide +kernel
theorem dX7_derive_16 : decode cX7_derive 16 = .ok (.aload_n 0, 1) := by decide +kernel
theorem dX7_derive_17 : decode cX7_derive 17 = .ok (.getfield 25, 3) := by decide +kernel
theorem dX7_derive_20 : decode cX7_derive 20 = .ok (.iload_n 3, 1) := by decide +kernel
theorem dX7_derive_21 : decode cX7_derive 21 = .ok (.iconst 1, 1) := by decide +kernel
theorem dX7_derive_22 : decode cX7_derive 22 = .ok (.bastore, 1) := by decide +kernel
theorem dX7_derive_23 : decode cX7_derive 23 = .ok (.aload_n 0, 1) := by decide +kernel
theorem dX7_derive_24 : decode cX7_derive 24 = .ok (.getfield 29, 3) := by decide +kernel
theorem dX7_derive_27 : decode cX7_derive 27 = .ok (.aload_n 0, 1) := by decide +kernel
theorem dX7_derive_28 : decode cX7_derive 28 = .ok (.getfield 172, 3) := by decide +kernel
theorem dX7_derive_31 : decode cX7_derive 31 = .ok (.iload_n 3, 1) := by decide +kernel
theorem dX7_derive_32 : decode cX7_derive 32 = .ok (.iastore, 1) := by decide +kernel
theorem dX7_derive_33 : decode cX7_derive 33 = .ok (.aload_n 0, 1) := by decide +kernel
theorem dX7_derive_34 : decode cX7_derive 34 = .ok (.dup, 1) := by decide +kernel
theorem dX7_derive_35 : decode cX7_derive 35 = .ok (.getfield 172, 3) := by decide +kernel
theorem dX7_derive_38 : decode cX7_derive 38 = .ok (.iconst 1, 1) := by decide +kernel
theorem dX7_derive_39 : decode cX7_derive 39 = .ok (.iadd, 1) := by decide +kernel
theorem dX7_derive_40 : decode cX7_derive 40 = .ok (.putfield 172, 3) := by decide +kernel
theorem dX7_derive_43 : decode cX7_derive 43 = .ok (.return_, 1) := by decide +kernel
theorem dX7_derivePremises_0 : decode cX7_derivePremises 0 = .ok (.aload_n 0, 1) := by decide +kernel
theorem dX7_derivePremises_1 : decode cX7_derivePremises 1 = .ok (.getfield 22, 3) := by decide +kernel
theorem dX7_derivePremises_4 : decode cX7_derivePremises 4 = .ok (.bipush 10, 2) := by decide +kernel
theorem dX7_derivePremises_6 : decode cX7_derivePremises 6 = .ok (.iload_n 1, 1) := by decide +kernel
theorem dX7_derivePremises_7 : decode cX7_derivePremises 7 = .ok (.imul, 1) := by decide +kernel
theorem dX7_derivePremises_8 : decode cX7_derivePremises 8 = .ok (.iload_n 2, 1) := by decide +kernel
theorem dX7_derivePremises_9 : decode cX7_derivePremises 9 = .ok (.iadd, 1) := by decide +kernel
theorem dX7_derivePremises_10 : decode cX7_derivePremises 10 = .ok (.iaload, 1) := by decide +kernel
theorem dX7_derivePremises_11 : decode cX7_derivePremises 11 = .ok (.istore_n 3, 1) := by decide +kernel
theorem dX7_derivePremises_12 : decode cX7_derivePremises 12 = .ok (.aload_n 0, 1) := by decide +kernel
theorem dX7_derivePremises_13 : decode cX7_derivePremises 13 = .ok (.iload_n 1, 1) := by decide +kernel
theorem dX7_derivePremises_14 : decode cX7_derivePremises 14 = .ok (.iload_n 2, 1) := by decide +kernel
theorem dX7_derivePremises_15 : decode cX7_derivePremises 15 = .ok (.iload_n 3, 1) := by decide +kernel
theorem dX7_derivePremises_16 : decode cX7_derivePremises 16 = .ok (.invokevirtual 160, 3) := by decide +kernel
theorem dX7_derivePremises_19 : decode cX7_derivePremises 19 = .ok (.istore 4, 2) := by decide +kernel
theorem dX7_derivePremises_21 : decode cX7_derivePremises 21 = .ok (.aload_n 0, 1) := by decide +kernel
theorem dX7_derivePremises_22 : decode cX7_derivePremises 22 = .ok (.iload 4, 2) := by decide +kernel
theorem dX7_derivePremises_24 : decode cX7_derivePremises 24 = .ok (.iload_n 1, 1) := by decide +kernel
theorem dX7_derivePremises_25 : decode cX7_derivePremises 25 = .ok (.iload_n 2, 1) := by decide +kernel
theorem dX7_derivePremises_26 : decode cX7_derivePremises 26 = .ok (.iload_n 3, 1) := by decide +kernel
theorem dX7_derivePremises_27 : decode cX7_derivePremises 27 = .ok (.invokevirtual 147, 3) := by decide +kernel
theorem dX7_derivePremises_30 : decode cX7_derivePremises 30 = .ok (.istore 5, 2) := by decide +kernel
theorem dX7_derivePremises_32 : decode cX7_derivePremises 32 = .ok (.iload 4, 2) := by decide +kernel
theorem dX7_derivePremises_34 : decode cX7_derivePremises 34 = .ok (.iconst 1, 1) := by decide +kernel
theorem dX7_derivePremises_35 : decode cX7_derivePremises 35 = .ok (.if_icmp .ne 26, 3) := by decide +kernel
theorem dX7_derivePremises_38 : decode cX7_derivePremises 38 = .ok (.aload_n 0, 1) := by decide +kernel
theorem dX7_derivePremises_39 : decode cX7_derivePremises 39 = .ok (.iload 5, 2) := by decide +kernel
theorem dX7_derivePremises_41 : decode cX7_derivePremises 41 = .ok (.iload_n 1, 1) := by decide +kernel
theorem dX7_derivePremises_42 : decode cX7_derivePremises 42 = .ok (.invokevirtual 175, 3) := by decide +kernel
theorem dX7_derivePremises_45 : decode cX7_derivePremises 45 = .ok (.iload_n 2, 1) := by decide +kernel
theorem dX7_derivePremises_46 : decode cX7_derivePremises 46 = .ok (.iload 5, 2) := by decide +kernel
theorem dX7_derivePremises_48 : decode cX7_derivePremises 48 = .ok (.if_icmp .eq 109, 3) := by decide +kernel
theorem dX7_derivePremises_51 : decode cX7_derivePremises 51 = .ok (.aload_n 0, 1) := by decide +kernel
theorem dX7_derivePremises_52 : decode cX7_derivePremises 52 = .ok (.iload 5, 2) := by decide +kernel
theorem dX7_derivePremises_54 : decode cX7_derivePremises 54 = .ok (.iload_n 2, 1) := by decide +kernel
theorem dX7_derivePremises_55 : decode cX7_derivePremises 55 = .ok (.invokevirtual 175, 3) := by decide +kernel
theorem dX7_derivePremises_58 : decode cX7_derivePremises 58 = .ok (.goto 99, 3) := by decide +kernel
theorem dX7_derivePremises_61 : decode cX7_derivePremises 61 = .ok (.iload 4, 2) := by decide +kernel
theorem dX7_derivePremises_63 : decode cX7_derivePremises 63 = .ok (.iconst 2, 1) := by decide +kernel
theorem dX7_derivePremises_64 : decode cX7_derivePremises 64 = .ok (.if_icmp .ne 20, 3) := by decide +kernel
theorem dX7_derivePremises_67 : decode cX7_derivePremises 67 = .ok (.aload_n 0, 1) := by decide +kernel
theorem dX7_derivePremises_68 : decode cX7_derivePremises 68 = .ok (.iload_n 1, 1) := by decide +kernel
theorem dX7_derivePremises_69 : decode cX7_derivePremises 69 = .ok (.iload 5, 2) := by decide +kernel
theorem dX7_derivePremises_71 : decode cX7_derivePremises 71 = .ok (.invokevirtual 175, 3) := by decide +kernel
theorem dX7_derivePremises_74 : decode cX7_derivePremises 74 = .ok (.aload_n 0, 1) := by decide +kernel
theorem dX7_derivePremises_75 : decode cX7_derivePremises 75 = .ok (.iload 5, 2) := by decide +kernel
theorem dX7_derivePremises_77 : decode cX7_derivePremises 77 = .ok (.iload_n 2, 1) := by decide +kernel
theorem dX7_derivePremises_78 : decode cX7_derivePremises 78 = .ok (.invokevirtual 175, 3) := by decide +kernel
theorem dX7_derivePremises_81 : decode cX7_derivePremises 81 = .ok (.goto 76, 3) := by decide +kernel
theorem dX7_derivePremises_84 : decode cX7_derivePremises 84 = .ok (.iload 4, 2) := by decide +kernel
theorem dX7_derivePremises_86 : decode cX7_derivePremises 86 = .ok (.iconst 3, 1) := by decide +kernel
theorem dX7_derivePremises_87 : decode cX7_derivePremises 87 = .ok (.if_icmp .ne 34, 3) := by decide +kernel
theorem dX7_derivePremises_90 : decode cX7_derivePremises 90 = .ok (.aload_n 0, 1) := by decide +kernel
theorem dX7_derivePremises_91 : decode cX7_derivePremises 91 = .ok (.iload_n 1, 1) := by decide +kernel
theorem dX7_derivePremises_92 : decode cX7_derivePremises 92 = .ok (.iload 5, 2) := by decide +kernel
theorem dX7_derivePremises_94 : decode cX7_derivePremises 94 = .ok (.invokevirtual 175, 3) := by decide +kernel
theorem dX7_derivePremises_97 : decode cX7_derivePremises 97 = .ok (.aload_n 0, 1) := by decide +kernel
theorem dX7_derivePremises_98 : decode cX7_derivePremises 98 = .ok (.iload_n 1, 1) := by decide +kernel
theorem dX7_derivePremises_99 : decode cX7_derivePremises 99 = .ok (.aload_n 0, 1) := by decide +kernel
theorem dX7_derivePremises_100 : decode cX7_derivePremises 100 = .ok (.iload_n 1, 1) := by decide +kernel
theorem dX7_derivePremises_101 : decode cX7_derivePremises 101 = .ok (.aload_n 0, 1) := by decide +kernel
theorem dX7_derivePremises_102 : decode cX7_derivePremises 102 = .ok (.getfield 7, 3) := by decide +kernel
theorem dX7_derivePremises_105 : decode cX7_derivePremises 105 = .ok (.bipush 11, 2) := by decide +kernel
theorem dX7_derivePremises_107 : decode cX7_derivePremises 107 = .ok (.iload 5, 2) := by decide +kernel
theorem dX7_derivePremises_109 : decode cX7_derivePremises 109 = .ok (.iadd, 1) := by decide +kernel
theorem dX7_derivePremises_110 : decode cX7_derivePremises 110 = .ok (.iaload, 1) := by decide +kernel
theorem dX7_derivePremises_111 : decode cX7_derivePremises 111 = .ok (.iload_n 3, 1) := by decide +kernel
theorem dX7_derivePremises_112 : decode cX7_derivePremises 112 = .ok (.invokevirtual 125, 3) := by decide +kernel
theorem dX7_derivePremises_115 : decode cX7_derivePremises 115 = .ok (.invokevirtual 175, 3) := by decide +kernel
theorem dX7_derivePremises_118 : decode cX7_derivePremises 118 = .ok (.goto 39, 3) := by decide +kernel
theorem dX7_derivePremises_121 : decode cX7_derivePremises 121 = .ok (.iload 4, 2) := by decide +kernel
theorem dX7_derivePremises_123 : decode cX7_derivePremises 123 = .ok (.iconst 4, 1) := by decide +kernel
theorem dX7_derivePremises_124 : decode cX7_derivePremises 124 = .ok (.if_icmp .ne 13, 3) := by decide +kernel
theorem dX7_derivePremises_127 : decode cX7_derivePremises 127 = .ok (.aload_n 0, 1) := by decide +kernel
theorem dX7_derivePremises_128 : decode cX7_derivePremises 128 = .ok (.iload_n 1, 1) := by decide +kernel
theorem dX7_derivePremises_129 : decode cX7_derivePremises 129 = .ok (.iload 5, 2) := by decide +kernel
theorem dX7_derivePremises_131 : decode cX7_derivePremises 131 = .ok (.invokevirtual 175, 3) := by decide +kernel
theorem dX7_derivePremises_134 : decode cX7_derivePremises 134 = .ok (.goto 23, 3) := by decide +kernel
theorem dX7_derivePremises_137 : decode cX7_derivePremises 137 = .ok (.aload_n 0, 1) := by decide +kernel
theorem dX7_derivePremises_138 : decode cX7_derivePremises 138 = .ok (.iload 5, 2) := by decide +kernel
theorem dX7_derivePremises_140 : decode cX7_derivePremises 140 = .ok (.iload_n 2, 1) := by decide +kernel
theorem dX7_derivePremises_141 : decode cX7_derivePremises 141 = .ok (.invokevirtual 175, 3) := by decide +kernel
theorem dX7_derivePremises_144 : decode cX7_derivePremises 144 = .ok (.aload_n 0, 1) := by decide +kernel
theorem dX7_derivePremises_145 : decode cX7_derivePremises 145 = .ok (.aload_n 0, 1) := by decide +kernel
theorem dX7_derivePremises_146 : decode cX7_derivePremises 146 = .ok (.iload 5, 2) := by decide +kernel
theorem dX7_derivePremises_148 : decode cX7_derivePremises 148 = .ok (.iload_n 3, 1) := by decide +kernel
theorem dX7_derivePremises_149 : decode cX7_derivePremises 149 = .ok (.invokevirtual 129, 3) := by decide +kernel
theorem dX7_derivePremises_152 : decode cX7_derivePremises 152 = .ok (.iload 5, 2) := by decide +kernel
theorem dX7_derivePremises_154 : decode cX7_derivePremises 154 = .ok (.invokevirtual 175, 3) := by decide +kernel
theorem dX7_derivePremises_157 : decode cX7_derivePremises 157 = .ok (.return_, 1) := by decide +kernel
theorem dX7_does_0 : decode cX7_does 0 = .ok (.aload_n 0, 1) := by decide +kernel
theorem dX7_does_1 : decode cX7_does 1 = .ok (.iload_n 1, 1) := by decide +kernel
theorem dX7_does_2 : decode cX7_does 2 = .ok (.iconst 0, 1) := by decide +kernel
theorem dX7_does_3 : decode cX7_does 3 = .ok (.invokevirtual 112, 3) := by decide +kernel
theorem dX7_does_6 : decode cX7_does 6 = .ok (.ifCond .eq 21, 3) := by decide +kernel
theorem dX7_does_9 : decode cX7_does 9 = .ok (.aload_n 0, 1) := by decide +kernel
theorem dX7_does_10 : decode cX7_does 10 = .ok (.getfield 7, 3) := by decide +kernel
theorem dX7_does_13 : decode cX7_does 13 = .ok (.bipush 11, 2) := by decide +kernel
theorem dX7_does_15 : decode cX7_does 15 = .ok (.iload_n 1, 1) := by decide +kernel
theorem dX7_does_16 : decode cX7_does 16 = .ok (.iadd, 1) := by decide +kernel
theorem dX7_does_17 : decode cX7_does 17 = .ok (.iaload, 1) := by decide +kernel
theorem dX7_does_18 : decode cX7_does 18 = .ok (.iload_n 2, 1) := by decide +kernel
theorem dX7_does_19 : decode cX7_does 19 = .ok (.iand, 1) := by decide +kernel
theorem dX7_does_20 : decode cX7_does 20 = .ok (.ifCond .eq 7, 3) := by decide +kernel
theorem dX7_does_23 : decode cX7_does 23 = .ok (.iconst 1, 1) := by decide +kernel
theorem dX7_does_24 : decode cX7_does 24 = .ok (.goto 4, 3) := by decide +kernel
theorem dX7_does_27 : decode cX7_does 27 = .ok (.iconst 0, 1) := by decide +kernel
theorem dX7_does_28 : decode cX7_does 28 = .ok (.ireturn, 1) := by decide +kernel
theorem dX7_endower_0 : decode cX7_endower 0 = .ok (.iconst 0, 1) := by decide +kernel
theorem dX7_endower_1 : decode cX7_endower 1 = .ok (.istore 4, 2) := by decide +kernel
theorem dX7_endower_3 : decode cX7_endower 3 = .ok (.iload 4, 2) := by decide +kernel
theorem dX7_endower_5 : decode cX7_endower 5 = .ok (.aload_n 0, 1) := by decide +kernel
theorem dX7_endower_6 : decode cX7_endower 6 = .ok (.getfield 7, 3) := by decide +kernel
theorem dX7_endower_9 : decode cX7_endower 9 = .ok (.iconst 0, 1) := by decide +kernel
theorem dX7_endower_10 : decode cX7_endower 10 = .ok (.iaload, 1) := by decide +kernel
theorem dX7_endower_11 : decode cX7_endower 11 = .ok (.if_icmp .ge 59, 3) := by decide +kernel
theorem dX7_endower_14 : decode cX7_endower 14 = .ok (.aload_n 0, 1) := by decide +kernel
theorem dX7_endower_15 : decode cX7_endower 15 = .ok (.iload 4, 2) := by decide +kernel
theorem dX7_endower_17 : decode cX7_endower 17 = .ok (.iconst 3, 1) := by decide +kernel
theorem dX7_endower_18 : decode cX7_endower 18 = .ok (.invokevirtual 112, 3) := by decide +kernel
theorem dX7_endower_21 : decode cX7_endower 21 = .ok (.ifCond .eq 43, 3) := by decide +kernel
theorem dX7_endower_24 : decode cX7_endower 24 = .ok (.aload_n 0, 1) := by decide +kernel
theorem dX7_endower_25 : decode cX7_endower 25 = .ok (.getfield 7, 3) := by decide +kernel
theorem dX7_endower_28 : decode cX7_endower 28 = .ok (.bipush 11, 2) := by decide +kernel
theorem dX7_endower_30 : decode cX7_endower 30 = .ok (.iload 4, 2) := by decide +kernel
theorem dX7_endower_32 : decode cX7_endower 32 = .ok (.iadd, 1) := by decide +kernel
theorem dX7_endower_33 : decode cX7_endower 33 = .ok (.iaload, 1) := by decide +kernel
theorem dX7_endower_34 : decode cX7_endower 34 = .ok (.iload_n 1, 1) := by decide +kernel
theorem dX7_endower_35 : decode cX7_endower 35 = .ok (.if_icmp .ne 29, 3) := by decide +kernel
theorem dX7_endower_38 : decode cX7_endower 38 = .ok (.aload_n 0, 1) := by decide +kernel
theorem dX7_endower_39 : decode cX7_endower 39 = .ok (.iload 4, 2) := by decide +kernel
theorem dX7_endower_41 : decode cX7_endower 41 = .ok (.iload_n 2, 1) := by decide +kernel
theorem dX7_endower_42 : decode cX7_endower 42 = .ok (.iload_n 3, 1) := by decide +kernel
theorem dX7_endower_43 : decode cX7_endower 43 = .ok (.invokevirtual 122, 3) := by decide +kernel
theorem dX7_endower_46 : decode cX7_endower 46 = .ok (.ifCond .eq 18, 3) := by decide +kernel
theorem dX7_endower_49 : decode cX7_endower 49 = .ok (.aload_n 0, 1) := by decide +kernel
theorem dX7_endower_50 : decode cX7_endower 50 = .ok (.iload 4, 2) := by decide +kernel
theorem dX7_endower_52 : decode cX7_endower 52 = .ok (.iload_n 3, 1) := by decide +kernel
theorem dX7_endower_53 : decode cX7_endower 53 = .ok (.invokevirtual 129, 3) := by decide +kernel
theorem dX7_endower_56 : decode cX7_endower 56 = .ok (.bipush (-9), 2) := by decide +kernel
theorem dX7_endower_58 : decode cX7_endower 58 = .ok (.if_icmp .eq 6, 3) := by decide +kernel
theorem dX7_endower_61 : decode cX7_endower 61 = .ok (.iload 4, 2) := by decide +kernel
theorem dX7_endower_63 : decode cX7_endower 63 = .ok (.ireturn, 1) := by decide +kernel
theorem dX7_endower_64 : decode cX7_endower 64 = .ok (.iinc 4 1, 3) := by decide +kernel
theorem dX7_endower_67 : decode cX7_endower 67 = .ok (.goto (-64), 3) := by decide +kernel
theorem dX7_endower_70 : decode cX7_endower 70 = .ok (.bipush (-9), 2) := by decide +kernel
theorem dX7_endower_72 : decode cX7_endower 72 = .ok (.ireturn, 1) := by decide +kernel
theorem dX7_findRound_0 : decode cX7_findRound 0 = .ok (.iconst 0, 1) := by decide +kernel
theorem dX7_findRound_1 : decode cX7_findRound 1 = .ok (.istore_n 2, 1) := by decide +kernel
theorem dX7_findRound_2 : decode cX7_findRound 2 = .ok (.iconst 0, 1) := by decide +kernel
theorem dX7_findRound_3 : decode cX7_findRound 3 = .ok (.istore_n 3, 1) := by decide +kernel
theorem dX7_findRound_4 : decode cX7_findRound 4 = .ok (.iload_n 3, 1) := by decide +kernel
theorem dX7_findRound_5 : decode cX7_findRound 5 = .ok (.aload_n 0, 1) := by decide +kernel
theorem dX7_findRound_6 : decode cX7_findRound 6 = .ok (.getfield 7, 3) := by decide +kernel
theorem dX7_findRound_9 : decode cX7_findRound 9 = .ok (.iconst 0, 1) := by decide +kernel
theorem dX7_findRound_10 : decode cX7_findRound 10 = .ok (.iaload, 1) := by decide +kernel
theorem dX7_findRound_11 : decode cX7_findRound 11 = .ok (.if_icmp .ge 74, 3) := by decide +kernel
theorem dX7_findRound_14 : decode cX7_findRound 14 = .ok (.iconst 0, 1) := by decide +kernel
theorem dX7_findRound_15 : decode cX7_findRound 15 = .ok (.istore 4, 2) := by decide +kernel
theorem dX7_findRound_17 : decode cX7_findRound 17 = .ok (.iload 4, 2) := by decide +kernel
theorem dX7_findRound_19 : decode cX7_findRound 19 = .ok (.aload_n 0, 1) := by decide +kernel
theorem dX7_findRound_20 : decode cX7_findRound 20 = .ok (.getfield 7, 3) := by decide +kernel
theorem dX7_findRound_23 : decode cX7_findRound 23 = .ok (.iconst 0, 1) := by decide +kernel
theorem dX7_findRound_24 : decode cX7_findRound 24 = .ok (.iaload, 1) := by decide +kernel
theorem dX7_findRound_25 : decode cX7_findRound 25 = .ok (.if_icmp .ge 54, 3) := by decide +kernel
theorem dX7_findRound_28 : decode cX7_findRound 28 = .ok (.aload_n 0, 1) := by decide +kernel
theorem dX7_findRound_29 : decode cX7_findRound 29 = .ok (.getfield 22, 3) := by decide +kernel
theorem dX7_findRound_32 : decode cX7_findRound 32 = .ok (.bipush 10, 2) := by decide +kernel
theorem dX7_findRound_34 : decode cX7_findRound 34 = .ok (.iload_n 3, 1) := by decide +kernel
theorem dX7_findRound_35 : decode cX7_findRound 35 = .ok (.imul, 1) := by decide +kernel
theorem dX7_findRound_36 : decode cX7_findRound 36 = .ok (.iload 4, 2) := by decide +kernel
theorem dX7_findRound_38 : decode cX7_findRound 38 = .ok (.iadd, 1) := by decide +kernel
theorem dX7_findRound_39 : decode cX7_findRound 39 = .ok (.iaload, 1) := by decide +kernel
theorem dX7_findRound_40 : decode cX7_findRound 40 = .ok (.bipush (-9), 2) := by decide +kernel
theorem dX7_findRound_42 : decode cX7_findRound 42 = .ok (.if_icmp .ne 31, 3) := by decide +kernel
theorem dX7_findRound_45 : decode cX7_findRound 45 = .ok (.aload_n 0, 1) := by decide +kernel
theorem dX7_findRound_46 : decode cX7_findRound 46 = .ok (.iload_n 3, 1) := by decide +kernel
theorem dX7_findRound_47 : decode cX7_findRound 47 = .ok (.iload 4, 2) := by decide +kernel
theorem dX7_findRound_49 : decode cX7_findRound 49 = .ok (.iload_n 1, 1) := by decide +kernel
theorem dX7_findRound_50 : decode cX7_findRound 50 = .ok (.invokevirtual 160, 3) := by decide +kernel
theorem dX7_findRound_53 : decode cX7_findRound 53 = .ok (.bipush (-9), 2) := by decide +kernel
theorem dX7_findRound_55 : decode cX7_findRound 55 = .ok (.if_icmp .eq 18, 3) := by decide +kernel
theorem dX7_findRound_58 : decode cX7_findRound 58 = .ok (.aload_n 0, 1) := by decide +kernel
theorem dX7_findRound_59 : decode cX7_findRound 59 = .ok (.getfield 22, 3) := by decide +kernel
theorem dX7_findRound_62 : decode cX7_findRound 62 = .ok (.bipush 10, 2) := by decide +kernel
theorem dX7_findRound_64 : decode cX7_findRound 64 = .ok (.iload_n 3, 1) := by decide +kernel
theorem dX7_findRound_65 : decode cX7_findRound 65 = .ok (.imul, 1) := by decide +kernel
theorem dX7_findRound_66 : decode cX7_findRound 66 = .ok (.iload 4, 2) := by decide +kernel
theorem dX7_findRound_68 : decode cX7_findRound 68 = .ok (.iadd, 1) := by decide +kernel
theorem dX7_findRound_69 : decode cX7_findRound 69 = .ok (.iload_n 1, 1) := by decide +kernel
theorem dX7_findRound_70 : decode cX7_findRound 70 = .ok (.iastore, 1) := by decide +kernel
theorem dX7_findRound_71 : decode cX7_findRound 71 = .ok (.iconst 1, 1) := by decide +kernel
theorem dX7_findRound_72 : decode cX7_findRound 72 = .ok (.istore_n 2, 1) := by decide +kernel
theorem dX7_findRound_73 : decode cX7_findRound 73 = .ok (.iinc 4 1, 3) := by decide +kernel
theorem dX7_findRound_76 : decode cX7_findRound 76 = .ok (.goto (-59), 3) := by decide +kernel
theorem dX7_findRound_79 : decode cX7_findRound 79 = .ok (.iinc 3 1, 3) := by decide +kernel
theorem dX7_findRound_82 : decode cX7_findRound 82 = .ok (.goto (-78), 3) := by decide +kernel
theorem dX7_findRound_85 : decode cX7_findRound 85 = .ok (.iload_n 2, 1) := by decide +kernel
theorem dX7_findRound_86 : decode cX7_findRound 86 = .ok (.ireturn, 1) := by decide +kernel
theorem dX7_forbid_0 : decode cX7_forbid 0 = .ok (.aload_n 0, 1) := by decide +kernel
theorem dX7_forbid_1 : decode cX7_forbid 1 = .ok (.iconst 0, 1) := by decide +kernel
theorem dX7_forbid_2 : decode cX7_forbid 2 = .ok (.putfield 32, 3) := by decide +kernel
theorem dX7_forbid_5 : decode cX7_forbid 5 = .ok (.aload_n 0, 1) := by decide +kernel
theorem dX7_forbid_6 : decode cX7_forbid 6 = .ok (.iload_n 1, 1) := by decide +kernel
theorem dX7_forbid_7 : decode cX7_forbid 7 = .ok (.iload_n 2, 1) := by decide +kernel
theorem dX7_forbid_8 : decode cX7_forbid 8 = .ok (.invokevirtual 166, 3) := by decide +kernel
theorem dX7_forbid_11 : decode cX7_forbid 11 = .ok (.ifCond .ne 5, 3) := by decide +kernel
theorem dX7_forbid_14 : decode cX7_forbid 14 = .ok (.iconst (-1), 1) := by decide +kernel
theorem dX7_forbid_15 : decode cX7_forbid 15 = .ok (.ireturn, 1) := by decide +kernel
theorem dX7_forbid_16 : decode cX7_forbid 16 = .ok (.aload_n 0, 1) := by decide +kernel
theorem dX7_forbid_17 : decode cX7_forbid 17 = .ok (.iload_n 1, 1) := by decide +kernel
theorem dX7_forbid_18 : decode cX7_forbid 18 = .ok (.iload_n 2, 1) := by decide +kernel
theorem dX7_forbid_19 : decode cX7_forbid 19 = .ok (.invokevirtual 188, 3) := by decide +kernel
theorem dX7_forbid_22 : decode cX7_forbid 22 = .ok (.bipush (-9), 2) := by decide +kernel
theorem dX7_forbid_24 : decode cX7_forbid 24 = .ok (.if_icmp .eq 6, 3) := by decide +kernel
theorem dX7_forbid_27 : decode cX7_forbid 27 = .ok (.bipush (-2), 2) := by decide +kernel
theorem dX7_forbid_29 : decode cX7_forbid 29 = .ok (.ireturn, 1) := by decide +kernel
theorem dX7_forbid_30 : decode cX7_forbid 30 = .ok (.aload_n 0, 1) := by decide +kernel
theorem dX7_forbid_31 : decode cX7_forbid 31 = .ok (.getfield 7, 3) := by decide +kernel
theorem dX7_forbid_34 : decode cX7_forbid 34 = .ok (.bipush 62, 2) := by decide +kernel
theorem dX7_forbid_36 : decode cX7_forbid 36 = .ok (.iaload, 1) := by decide +kernel
theorem dX7_forbid_37 : decode cX7_forbid 37 = .ok (.iconst 4, 1) := by decide +kernel
theorem dX7_forbid_38 : decode cX7_forbid 38 = .ok (.if_icmp .ne 6, 3) := by decide +kernel
theorem dX7_forbid_41 : decode cX7_forbid 41 = .ok (.bipush (-3), 2) := by decide +kernel
theorem dX7_forbid_43 : decode cX7_forbid 43 = .ok (.ireturn, 1) := by decide +kernel
theorem dX7_forbid_44 : decode cX7_forbid 44 = .ok (.aload_n 0, 1) := by decide +kernel
theorem dX7_forbid_45 : decode cX7_forbid 45 = .ok (.invokevirtual 99, 3) := by decide +kernel
theorem dX7_forbid_48 : decode cX7_forbid 48 = .ok (.aload_n 0, 1) := by decide +kernel
theorem dX7_forbid_49 : decode cX7_forbid 49 = .ok (.getfield 7, 3) := by decide +kernel
theorem dX7_forbid_52 : decode cX7_forbid 52 = .ok (.bipush 63, 2) := by decide +kernel
theorem dX7_forbid_54 : decode cX7_forbid 54 = .ok (.iconst 2, 1) := by decide +kernel
theorem dX7_forbid_55 : decode cX7_forbid 55 = .ok (.aload_n 0, 1) := by decide +kernel
theorem dX7_forbid_56 : decode cX7_forbid 56 = .ok (.getfield 7, 3) := by decide +kernel
theorem dX7_forbid_59 : decode cX7_forbid 59 = .ok (.bipush 62, 2) := by decide +kernel
theorem dX7_forbid_61 : decode cX7_forbid 61 = .ok (.iaload, 1) := by decide +kernel
theorem dX7_forbid_62 : decode cX7_forbid 62 = .ok (.imul, 1) := by decide +kernel
theorem dX7_forbid_63 : decode cX7_forbid 63 = .ok (.iadd, 1) := by decide +kernel
theorem dX7_forbid_64 : decode cX7_forbid 64 = .ok (.iload_n 1, 1) := by decide +kernel
theorem dX7_forbid_65 : decode cX7_forbid 65 = .ok (.iastore, 1) := by decide +kernel
theorem dX7_forbid_66 : decode cX7_forbid 66 = .ok (.aload_n 0, 1) := by decide +kernel
theorem dX7_forbid_67 : decode cX7_forbid 67 = .ok (.getfield 7, 3) := by decide +kernel
theorem dX7_forbid_70 : decode cX7_forbid 70 = .ok (.bipush 63, 2) := by decide +kernel
theorem dX7_forbid_72 : decode cX7_forbid 72 = .ok (.iconst 2, 1) := by decide +kernel
theorem dX7_forbid_73 : decode cX7_forbid 73 = .ok (.aload_n 0, 1) := by decide +kernel
theorem dX7_forbid_74 : decode cX7_forbid 74 = .ok (.getfield 7, 3) := by decide +kernel
theorem dX7_forbid_77 : decode cX7_forbid 77 = .ok (.bipush 62, 2) := by decide +kernel
theorem dX7_forbid_79 : decode cX7_forbid 79 = .ok (.iaload, 1) := by decide +kernel
theorem dX7_forbid_80 : decode cX7_forbid 80 = .ok (.imul, 1) := by decide +kernel
theorem dX7_forbid_81 : decode cX7_forbid 81 = .ok (.iadd, 1) := by decide +kernel
theorem dX7_forbid_82 : decode cX7_forbid 82 = .ok (.iconst 1, 1) := by decide +kernel
theorem dX7_forbid_83 : decode cX7_forbid 83 = .ok (.iadd, 1) := by decide +kernel
theorem dX7_forbid_84 : decode cX7_forbid 84 = .ok (.iload_n 2, 1) := by decide +kernel
theorem dX7_forbid_85 : decode cX7_forbid 85 = .ok (.iastore, 1) := by decide +kernel
theorem dX7_forbid_86 : decode cX7_forbid 86 = .ok (.aload_n 0, 1) := by decide +kernel
theorem dX7_forbid_87 : decode cX7_forbid 87 = .ok (.getfield 7, 3) := by decide +kernel
theorem dX7_forbid_90 : decode cX7_forbid 90 = .ok (.bipush 62, 2) := by decide +kernel
theorem dX7_forbid_92 : decode cX7_forbid 92 = .ok (.dup2, 1) := by decide +kernel
theorem dX7_forbid_93 : decode cX7_forbid 93 = .ok (.iaload, 1) := by decide +kernel
theorem dX7_forbid_94 : decode cX7_forbid 94 = .ok (.iconst 1, 1) := by decide +kernel
theorem dX7_forbid_95 : decode cX7_forbid 95 = .ok (.iadd, 1) := by decide +kernel
theorem dX7_forbid_96 : decode cX7_forbid 96 = .ok (.iastore, 1) := by decide +kernel
theorem dX7_forbid_97 : decode cX7_forbid 97 = .ok (.aload_n 0, 1) := by decide +kernel
theorem dX7_forbid_98 : decode cX7_forbid 98 = .ok (.getfield 7, 3) := by decide +kernel
theorem dX7_forbid_101 : decode cX7_forbid 101 = .ok (.bipush 62, 2) := by decide +kernel
theorem dX7_forbid_103 : decode cX7_forbid 103 = .ok (.iaload, 1) := by decide +kernel
theorem dX7_forbid_104 : decode cX7_forbid 104 = .ok (.ireturn, 1) := by decide +kernel
theorem dX7_give_0 : decode cX7_give 0 = .ok (.aload_n 0, 1) := by decide +kernel
theorem dX7_give_1 : decode cX7_give 1 = .ok (.iconst 0, 1) := by decide +kernel
theorem dX7_give_2 : decode cX7_give 2 = .ok (.putfield 32, 3) := by decide +kernel
theorem dX7_give_5 : decode cX7_give 5 = .ok (.aload_n 0, 1) := by decide +kernel
theorem dX7_give_6 : decode cX7_give 6 = .ok (.iload_n 1, 1) := by decide +kernel
theorem dX7_give_7 : decode cX7_give 7 = .ok (.iconst 1, 1) := by decide +kernel
theorem dX7_give_8 : decode cX7_give 8 = .ok (.invokevirtual 119, 3) := by decide +kernel
theorem dX7_give_11 : decode cX7_give 11 = .ok (.ifCond .eq 20, 3) := by decide +kernel
theorem dX7_give_14 : decode cX7_give 14 = .ok (.aload_n 0, 1) := by decide +kernel
theorem dX7_give_15 : decode cX7_give 15 = .ok (.iload_n 2, 1) := by decide +kernel
theorem dX7_give_16 : decode cX7_give 16 = .ok (.iconst 4, 1) := by decide +kernel
theorem dX7_give_17 : decode cX7_give 17 = .ok (.invokevirtual 119, 3) := by decide +kernel
theorem dX7_give_20 : decode cX7_give 20 = .ok (.ifCond .eq 11, 3) := by decide +kernel
theorem dX7_give_23 : decode cX7_give 23 = .ok (.aload_n 0, 1) := by decide +kernel
theorem dX7_give_24 : decode cX7_give 24 = .ok (.iload_n 3, 1) := by decide +kernel
theorem dX7_give_25 : decode cX7_give 25 = .ok (.invokevirtual 108, 3) := by decide +kernel
theorem dX7_give_28 : decode cX7_give 28 = .ok (.ifCond .ne 5, 3) := by decide +kernel
theorem dX7_give_31 : decode cX7_give 31 = .ok (.iconst (-1), 1) := by decide +kernel
theorem dX7_give_32 : decode cX7_give 32 = .ok (.ireturn, 1) := by decide +kernel
theorem dX7_give_33 : decode cX7_give 33 = .ok (.aload_n 0, 1) := by decide +kernel
theorem dX7_give_34 : decode cX7_give 34 = .ok (.iload_n 1, 1) := by decide +kernel
theorem dX7_give_35 : decode cX7_give 35 = .ok (.iload_n 2, 1) := by decide +kernel
theorem dX7_give_36 : decode cX7_give 36 = .ok (.invokevirtual 197, 3) := by decide +kernel
theorem dX7_give_39 : decode cX7_give 39 = .ok (.ifCond .eq 26, 3) := by decide +kernel
theorem dX7_give_42 : decode cX7_give 42 = .ok (.iload_n 3, 1) := by decide +kernel
theorem dX7_give_43 : decode cX7_give 43 = .ok (.iload_n 1, 1) := by decide +kernel
theorem dX7_give_44 : decode cX7_give 44 = .ok (.if_icmp .eq 12, 3) := by decide +kernel
theorem dX7_give_47 : decode cX7_give 47 = .ok (.aload_n 0, 1) := by decide +kernel
theorem dX7_give_48 : decode cX7_give 48 = .ok (.iload_n 1, 1) := by decide +kernel
theorem dX7_give_49 : decode cX7_give 49 = .ok (.iload_n 3, 1) := by decide +kernel
theorem dX7_give_50 : decode cX7_give 50 = .ok (.invokevirtual 197, 3) := by decide +kernel
theorem dX7_give_53 : decode cX7_give 53 = .ok (.ifCond .eq 12, 3) := by decide +kernel
theorem dX7_give_56 : decode cX7_give 56 = .ok (.aload_n 0, 1) := by decide +kernel
theorem dX7_give_57 : decode cX7_give 57 = .ok (.iload_n 2, 1) := by decide +kernel
theorem dX7_give_58 : decode cX7_give 58 = .ok (.iload_n 3, 1) := by decide +kernel
theorem dX7_give_59 : decode cX7_give 59 = .ok (.invokevirtual 200, 3) := by decide +kernel
theorem dX7_give_62 : decode cX7_give 62 = .ok (.goto 5, 3) := by decide +kernel
theorem dX7_give_65 : decode cX7_give 65 = .ok (.bipush (-2), 2) := by decide +kernel
theorem dX7_give_67 : decode cX7_give 67 = .ok (.ireturn, 1) := by decide +kernel
theorem dX7_giver_0 : decode cX7_giver 0 = .ok (.iconst 0, 1) := by decide +kernel
theorem dX7_giver_1 : decode cX7_giver 1 = .ok (.istore 4, 2) := by decide +kernel
theorem dX7_giver_3 : decode cX7_giver 3 = .ok (.iload 4, 2) := by decide +kernel
theorem dX7_giver_5 : decode cX7_giver 5 = .ok (.aload_n 0, 1) := by decide +kernel
theorem dX7_giver_6 : decode cX7_giver 6 = .ok (.getfield 7, 3) := by decide +kernel
theorem dX7_giver_9 : decode cX7_giver 9 = .ok (.iconst 0, 1) := by decide +kernel
theorem dX7_giver_10 : decode cX7_giver 10 = .ok (.iaload, 1) := by decide +kernel
theorem dX7_giver_11 : decode cX7_giver 11 = .ok (.if_icmp .ge 59, 3) := by decide +kernel
theorem dX7_giver_14 : decode cX7_giver 14 = .ok (.aload_n 0, 1) := by decide +kernel
theorem dX7_giver_15 : decode cX7_giver 15 = .ok (.iload_n 1, 1) := by decide +kernel
theorem dX7_giver_16 : decode cX7_giver 16 = .ok (.iconst 4, 1) := by decide +kernel
theorem dX7_giver_17 : decode cX7_giver 17 = .ok (.invokevirtual 119, 3) := by decide +kernel
theorem dX7_giver_20 : decode cX7_giver 20 = .ok (.ifCond .eq 50, 3) := by decide +kernel
theorem dX7_giver_23 : decode cX7_giver 23 = .ok (.aload_n 0, 1) := by decide +kernel
theorem dX7_giver_24 : decode cX7_giver 24 = .ok (.iload 4, 2) := by decide +kernel
theorem dX7_giver_26 : decode cX7_giver 26 = .ok (.iconst 1, 1) := by decide +kernel
theorem dX7_giver_27 : decode cX7_giver 27 = .ok (.invokevirtual 119, 3) := by decide +kernel
theorem dX7_giver_30 : decode cX7_giver 30 = .ok (.ifCond .eq 34, 3) := by decide +kernel
theorem dX7_giver_33 : decode cX7_giver 33 = .ok (.aload_n 0, 1) := by decide +kernel
theorem dX7_giver_34 : decode cX7_giver 34 = .ok (.iload 4, 2) := by decide +kernel
theorem dX7_giver_36 : decode cX7_giver 36 = .ok (.iload_n 1, 1) := by decide +kernel
theorem dX7_giver_37 : decode cX7_giver 37 = .ok (.iload_n 3, 1) := by decide +kernel
theorem dX7_giver_38 : decode cX7_giver 38 = .ok (.invokevirtual 122, 3) := by decide +kernel
theorem dX7_giver_41 : decode cX7_giver 41 = .ok (.ifCond .eq 23, 3) := by decide +kernel
theorem dX7_giver_44 : decode cX7_giver 44 = .ok (.iload 4, 2) := by decide +kernel
theorem dX7_giver_46 : decode cX7_giver 46 = .ok (.iload_n 2, 1) := by decide +kernel
theorem dX7_giver_47 : decode cX7_giver 47 = .ok (.if_icmp .eq 14, 3) := by decide +kernel
theorem dX7_giver_50 : decode cX7_giver 50 = .ok (.aload_n 0, 1) := by decide +kernel
theorem dX7_giver_51 : decode cX7_giver 51 = .ok (.iload 4, 2) := by decide +kernel
theorem dX7_giver_53 : decode cX7_giver 53 = .ok (.iload_n 2, 1) := by decide +kernel
theorem dX7_giver_54 : decode cX7_giver 54 = .ok (.iload_n 3, 1) := by decide +kernel
theorem dX7_giver_55 : decode cX7_giver 55 = .ok (.invokevirtual 122, 3) := by decide +kernel
theorem dX7_giver_58 : decode cX7_giver 58 = .ok (.ifCond .eq 6, 3) := by decide +kernel
theorem dX7_giver_61 : decode cX7_giver 61 = .ok (.iload 4, 2) := by decide +kernel
theorem dX7_giver_63 : decode cX7_giver 63 = .ok (.ireturn, 1) := by decide +kernel
theorem dX7_giver_64 : decode cX7_giver 64 = .ok (.iinc 4 1, 3) := by decide +kernel
theorem dX7_giver_67 : decode cX7_giver 67 = .ok (.goto (-64), 3) := by decide +kernel
theorem dX7_giver_70 : decode cX7_giver 70 = .ok (.bipush (-9), 2) := by decide +kernel
theorem dX7_giver_72 : decode cX7_giver 72 = .ok (.ireturn, 1) := by decide +kernel
theorem dX7_has_0 : decode cX7_has 0 = .ok (.iload_n 0, 1) := by decide +kernel
theorem dX7_has_1 : decode cX7_has 1 = .ok (.iload_n 1, 1) := by decide +kernel
theorem dX7_has_2 : decode cX7_has 2 = .ok (.ishr, 1) := by decide +kernel
theorem dX7_has_3 : decode cX7_has 3 = .ok (.iconst 1, 1) := by decide +kernel
theorem dX7_has_4 : decode cX7_has 4 = .ok (.iand, 1) := by decide +kernel
theorem dX7_has_5 : decode cX7_has 5 = .ok (.iconst 1, 1) := by decide +kernel
theorem dX7_has_6 : decode cX7_has 6 = .ok (.if_icmp .ne 7, 3) := by decide +kernel
theorem dX7_has_9 : decode cX7_has 9 = .ok (.iconst 1, 1) := by decide +kernel
theorem dX7_has_10 : decode cX7_has 10 = .ok (.goto 4, 3) := by decide +kernel
theorem dX7_has_13 : decode cX7_has 13 = .ok (.iconst 0, 1) := by decide +kernel
theorem dX7_has_14 : decode cX7_has 14 = .ok (.ireturn, 1) := by decide +kernel
theorem dX7_holds_0 : decode cX7_holds 0 = .ok (.aload_n 0, 1) := by decide +kernel
theorem dX7_holds_1 : decode cX7_holds 1 = .ok (.getfield 7, 3) := by decide +kernel
theorem dX7_holds_4 : decode cX7_holds 4 = .ok (.bipush 71, 2) := by decide +kernel
theorem dX7_holds_6 : decode cX7_holds 6 = .ok (.iload_n 1, 1) := by decide +kernel
theorem dX7_holds_7 : decode cX7_holds 7 = .ok (.iadd, 1) := by decide +kernel
theorem dX7_holds_8 : decode cX7_holds 8 = .ok (.iaload, 1) := by decide +kernel
theorem dX7_holds_9 : decode cX7_holds 9 = .ok (.iload_n 2, 1) := by decide +kernel
theorem dX7_holds_10 : decode cX7_holds 10 = .ok (.invokestatic 151, 3) := by decide +kernel
theorem dX7_holds_13 : decode cX7_holds 13 = .ok (.ireturn, 1) := by decide +kernel
theorem dX7_holdsInRun_0 : decode cX7_holdsInRun 0 = .ok (.aload_n 0, 1) := by decide +kernel
theorem dX7_holdsInRun_1 : decode cX7_holdsInRun 1 = .ok (.iconst 0, 1) := by decide +kernel
theorem dX7_holdsInRun_2 : decode cX7_holdsInRun 2 = .ok (.putfield 32, 3) := by decide +kernel
theorem dX7_holdsInRun_5 : decode cX7_holdsInRun 5 = .ok (.aload_n 0, 1) := by decide +kernel
theorem dX7_holdsInRun_6 : decode cX7_holdsInRun 6 = .ok (.iload_n 1, 1) := by decide +kernel
theorem dX7_holdsInRun_7 : decode cX7_holdsInRun 7 = .ok (.iload_n 2, 1) := by decide +kernel
theorem dX7_holdsInRun_8 : decode cX7_holdsInRun 8 = .ok (.invokevirtual 166, 3) := by decide +kernel
theorem dX7_holdsInRun_11 : decode cX7_holdsInRun 11 = .ok (.ifCond .ne 7, 3) := by decide +kernel
theorem dX7_holdsInRun_14 : decode cX7_holdsInRun 14 = .ok (.iconst (-1), 1) := by decide +kernel
theorem dX7_holdsInRun_15 : decode cX7_holdsInRun 15 = .ok (.goto 17, 3) := by decide +kernel
theorem dX7_holdsInRun_18 : decode cX7_holdsInRun 18 = .ok (.aload_n 0, 1) := by decide +kernel
theorem dX7_holdsInRun_19 : decode cX7_holdsInRun 19 = .ok (.iload_n 1, 1) := by decide +kernel
theorem dX7_holdsInRun_20 : decode cX7_holdsInRun 20 = .ok (.iload_n 2, 1) := by decide +kernel
theorem dX7_holdsInRun_21 : decode cX7_holdsInRun 21 = .ok (.invokevirtual 197, 3) := by decide +kernel
theorem dX7_holdsInRun_24 : decode cX7_holdsInRun 24 = .ok (.ifCond .eq 7, 3) := by decide +kernel
theorem dX7_holdsInRun_27 : decode cX7_holdsInRun 27 = .ok (.iconst 1, 1) := by decide +kernel
theorem dX7_holdsInRun_28 : decode cX7_holdsInRun 28 = .ok (.goto 4, 3) := by decide +kernel
theorem dX7_holdsInRun_31 : decode cX7_holdsInRun 31 = .ok (.iconst 0, 1) := by decide +kernel
theorem dX7_holdsInRun_32 : decode cX7_holdsInRun 32 = .ok (.ireturn, 1) := by decide +kernel
theorem dX7_in_0 : decode cX7_in 0 = .ok (.iload_n 0, 1) := by decide +kernel
theorem dX7_in_1 : decode cX7_in 1 = .ok (.iload_n 1, 1) := by decide +kernel
theorem dX7_in_2 : decode cX7_in 2 = .ok (.if_icmp .lt 12, 3) := by decide +kernel
theorem dX7_in_5 : decode cX7_in 5 = .ok (.iload_n 0, 1) := by decide +kernel
theorem dX7_in_6 : decode cX7_in 6 = .ok (.iload_n 2, 1) := by decide +kernel
theorem dX7_in_7 : decode cX7_in 7 = .ok (.if_icmp .gt 7, 3) := by decide +kernel
theorem dX7_in_10 : decode cX7_in 10 = .ok (.iconst 1, 1) := by decide +kernel
theorem dX7_in_11 : decode cX7_in 11 = .ok (.goto 4, 3) := by decide +kernel
theorem dX7_in_14 : decode cX7_in 14 = .ok (.iconst 0, 1) := by decide +kernel
theorem dX7_in_15 : decode cX7_in 15 = .ok (.ireturn, 1) := by decide +kernel
theorem dX7_indexOf_0 : decode cX7_indexOf 0 = .ok (.iconst 0, 1) := by decide +kernel
theorem dX7_indexOf_1 : decode cX7_indexOf 1 = .ok (.istore_n 3, 1) := by decide +kernel
theorem dX7_indexOf_2 : decode cX7_indexOf 2 = .ok (.iload_n 3, 1) := by decide +kernel
theorem dX7_indexOf_3 : decode cX7_indexOf 3 = .ok (.aload_n 0, 1) := by decide +kernel
theorem dX7_indexOf_4 : decode cX7_indexOf 4 = .ok (.bipush 41, 2) := by decide +kernel
theorem dX7_indexOf_6 : decode cX7_indexOf 6 = .ok (.iaload, 1) := by decide +kernel
theorem dX7_indexOf_7 : decode cX7_indexOf 7 = .ok (.if_icmp .ge 37, 3) := by decide +kernel
theorem dX7_indexOf_10 : decode cX7_indexOf 10 = .ok (.aload_n 0, 1) := by decide +kernel
theorem dX7_indexOf_11 : decode cX7_indexOf 11 = .ok (.bipush 42, 2) := by decide +kernel
theorem dX7_indexOf_13 : decode cX7_indexOf 13 = .ok (.iconst 2, 1) := by decide +kernel
theorem dX7_indexOf_14 : decode cX7_indexOf 14 = .ok (.iload_n 3, 1) := by decide +kernel
theorem dX7_indexOf_15 : decode cX7_indexOf 15 = .ok (.imul, 1) := by decide +kernel
theorem dX7_indexOf_16 : decode cX7_indexOf 16 = .ok (.iadd, 1) := by decide +kernel
theorem dX7_indexOf_17 : decode cX7_indexOf 17 = .ok (.iaload, 1) := by decide +kernel
theorem dX7_indexOf_18 : decode cX7_indexOf 18 = .ok (.iload_n 1, 1) := by decide +kernel
theorem dX7_indexOf_19 : decode cX7_indexOf 19 = .ok (.if_icmp .ne 19, 3) := by decide +kernel
theorem dX7_indexOf_22 : decode cX7_indexOf 22 = .ok (.aload_n 0, 1) := by decide +kernel
theorem dX7_indexOf_23 : decode cX7_indexOf 23 = .ok (.bipush 42, 2) := by decide +kernel
theorem dX7_indexOf_25 : decode cX7_indexOf 25 = .ok (.iconst 2, 1) := by decide +kernel
theorem dX7_indexOf_26 : decode cX7_indexOf 26 = .ok (.iload_n 3, 1) := by decide +kernel
theorem dX7_indexOf_27 : decode cX7_indexOf 27 = .ok (.imul, 1) := by decide +kernel
theorem dX7_indexOf_28 : decode cX7_indexOf 28 = .ok (.iadd, 1) := by decide +kernel
theorem dX7_indexOf_29 : decode cX7_indexOf 29 = .ok (.iconst 1, 1) := by decide +kernel
theorem dX7_indexOf_30 : decode cX7_indexOf 30 = .ok (.iadd, 1) := by decide +kernel
theorem dX7_indexOf_31 : decode cX7_indexOf 31 = .ok (.iaload, 1) := by decide +kernel
theorem dX7_indexOf_32 : decode cX7_indexOf 32 = .ok (.iload_n 2, 1) := by decide +kernel
theorem dX7_indexOf_33 : decode cX7_indexOf 33 = .ok (.if_icmp .ne 5, 3) := by decide +kernel
theorem dX7_indexOf_36 : decode cX7_indexOf 36 = .ok (.iload_n 3, 1) := by decide +kernel
theorem dX7_indexOf_37 : decode cX7_indexOf 37 = .ok (.ireturn, 1) := by decide +kernel
theorem dX7_indexOf_38 : decode cX7_indexOf 38 = .ok (.iinc 3 1, 3) := by decide +kernel
theorem dX7_indexOf_41 : decode cX7_indexOf 41 = .ok (.goto (-39), 3) := by decide +kernel
theorem dX7_indexOf_44 : decode cX7_indexOf 44 = .ok (.bipush (-9), 2) := by decide +kernel
theorem dX7_indexOf_46 : decode cX7_indexOf 46 = .ok (.ireturn, 1) := by decide +kernel
theorem dX7_init_0 : decode cX7_init 0 = .ok (.aload_n 0, 1) := by decide +kernel
theorem dX7_init_1 : decode cX7_init 1 = .ok (.invokespecial 1, 3) := by decide +kernel
theorem dX7_init_4 : decode cX7_init 4 = .ok (.aload_n 0, 1) := by decide +kernel
theorem dX7_init_5 : decode cX7_init 5 = .ok (.bipush 81, 2) := by decide +kernel
theorem dX7_init_7 : decode cX7_init 7 = .ok (.newarray .int, 2) := by decide +kernel
theorem dX7_init_9 : decode cX7_init 9 = .ok (.putfield 7, 3) := by decide +kernel
theorem dX7_init_12 : decode cX7_init 12 = .ok (.aload_n 0, 1) := by decide +kernel
theorem dX7_init_13 : decode cX7_init 13 = .ok (.bipush 81, 2) := by decide +kernel
theorem dX7_init_15 : decode cX7_init 15 = .ok (.newarray .int, 2) := by decide +kernel
theorem dX7_init_17 : decode cX7_init 17 = .ok (.putfield 13, 3) := by decide +kernel
theorem dX7_init_20 : decode cX7_init 20 = .ok (.aload_n 0, 1) := by decide +kernel
theorem dX7_init_21 : decode cX7_init 21 = .ok (.sipush 405, 3) := by decide +kernel
theorem dX7_init_24 : decode cX7_init 24 = .ok (.newarray .int, 2) := by decide +kernel
theorem dX7_init_26 : decode cX7_init 26 = .ok (.putfield 16, 3) := by decide +kernel
theorem dX7_init_29 : decode cX7_init 29 = .ok (.aload_n 0, 1) := by decide +kernel
theorem dX7_init_30 : decode cX7_init 30 = .ok (.sipush 160, 3) := by decide +kernel
theorem dX7_init_33 : decode cX7_init 33 = .ok (.newarray .int, 2) := by decide +kernel
theorem dX7_init_35 : decode cX7_init 35 = .ok (.putfield 19, 3) := by decide +kernel
theorem dX7_init_38 : decode cX7_init 38 = .ok (.aload_n 0, 1) := by decide +kernel
theorem dX7_init_39 : decode cX7_init 39 = .ok (.bipush 100, 2) := by decide +kernel
theorem dX7_init_41 : decode cX7_init 41 = .ok (.newarray .int, 2) := by decide +kernel
theorem dX7_init_43 : decode cX7_init 43 = .ok (.putfield 22, 3) := by decide +kernel
theorem dX7_init_46 : decode cX7_init 46 = .ok (.aload_n 0, 1) := by decide +kernel
theorem dX7_init_47 : decode cX7_init 47 = .ok (.bipush 100, 2) := by decide +kernel
theorem dX7_init_49 : decode cX7_init 49 = .ok (.newarray .boolean, 2) := by decide +kernel
theorem dX7_init_51 : decode cX7_init 51 = .ok (.putfield 25, 3) := by decide +kernel
theorem dX7_init_54 : decode cX7_init 54 = .ok (.aload_n 0, 1) := by decide +kernel
theorem dX7_init_55 : decode cX7_init 55 = .ok (.bipush 100, 2) := by decide +kernel
theorem dX7_init_57 : decode cX7_init 57 = .ok (.newarray .int, 2) := by decide +kernel
theorem dX7_init_59 : decode cX7_init 59 = .ok (.putfield 29, 3) := by decide +kernel
theorem dX7_init_62 : decode cX7_init 62 = .ok (.return_, 1) := by decide +kernel
theorem dX7_isFine_0 : decode cX7_isFine 0 = .ok (.aload_n 0, 1) := by decide +kernel
theorem dX7_isFine_1 : decode cX7_isFine 1 = .ok (.getfield 67, 3) := by decide +kernel
theorem dX7_isFine_4 : decode cX7_isFine 4 = .ok (.bipush (-9), 2) := by decide +kernel
theorem dX7_isFine_6 : decode cX7_isFine 6 = .ok (.if_icmp .ne 7, 3) := by decide +kernel
theorem dX7_isFine_9 : decode cX7_isFine 9 = .ok (.iconst 1, 1) := by decide +kernel
theorem dX7_isFine_10 : decode cX7_isFine 10 = .ok (.goto 4, 3) := by decide +kernel
theorem dX7_isFine_13 : decode cX7_isFine 13 = .ok (.iconst 0, 1) := by decide +kernel
theorem dX7_isFine_14 : decode cX7_isFine 14 = .ok (.ireturn, 1) := by decide +kernel
theorem dX7_isFound_0 : decode cX7_isFound 0 = .ok (.aload_n 0, 1) := by decide +kernel
theorem dX7_isFound_1 : decode cX7_isFound 1 = .ok (.getfield 22, 3) := by decide +kernel
theorem dX7_isFound_4 : decode cX7_isFound 4 = .ok (.bipush 10, 2) := by decide +kernel
theorem dX7_isFound_6 : decode cX7_isFound 6 = .ok (.iload_n 1, 1) := by decide +kernel
theorem dX7_isFound_7 : decode cX7_isFound 7 = .ok (.imul, 1) := by decide +kernel
theorem dX7_isFound_8 : decode cX7_isFound 8 = .ok (.iload_n 2, 1) := by decide +kernel
theorem dX7_isFound_9 : decode cX7_isFound 9 = .ok (.iadd, 1) := by decide +kernel
theorem dX7_isFound_10 : decode cX7_isFound 10 = .ok (.iaload, 1) := by decide +kernel
theorem dX7_isFound_11 : decode cX7_isFound 11 = .ok (.istore 4, 2) := by decide +kernel
theorem dX7_isFound_13 : decode cX7_isFound 13 = .ok (.iload 4, 2) := by decide +kernel
theorem dX7_isFound_15 : decode cX7_isFound 15 = .ok (.bipush (-9), 2) := by decide +kernel
theorem dX7_isFound_17 : decode cX7_isFound 17 = .ok (.if_icmp .eq 13, 3) := by decide +kernel
theorem dX7_isFound_20 : decode cX7_isFound 20 = .ok (.iload 4, 2) := by decide +kernel
theorem dX7_isFound_22 : decode cX7_isFound 22 = .ok (.iload_n 3, 1) := by decide +kernel
theorem dX7_isFound_23 : decode cX7_isFound 23 = .ok (.if_icmp .ge 7, 3) := by decide +kernel
theorem dX7_isFound_26 : decode cX7_isFound 26 = .ok (.iconst 1, 1) := by decide +kernel
theorem dX7_isFound_27 : decode cX7_isFound 27 = .ok (.goto 4, 3) := by decide +kernel
theorem dX7_isFound_30 : decode cX7_isFound 30 = .ok (.iconst 0, 1) := by decide +kernel
theorem dX7_isFound_31 : decode cX7_isFound 31 = .ok (.ireturn, 1) := by decide +kernel
theorem dX7_isHolder_0 : decode cX7_isHolder 0 = .ok (.iload_n 1, 1) := by decide +kernel
theorem dX7_isHolder_1 : decode cX7_isHolder 1 = .ok (.iconst 0, 1) := by decide +kernel
theorem dX7_isHolder_2 : decode cX7_isHolder 2 = .ok (.aload_n 0, 1) := by decide +kernel
theorem dX7_isHolder_3 : decode cX7_isHolder 3 = .ok (.iconst 0, 1) := by decide +kernel
theorem dX7_isHolder_4 : decode cX7_isHolder 4 = .ok (.iaload, 1) := by decide +kernel
theorem dX7_isHolder_5 : decode cX7_isHolder 5 = .ok (.iconst 1, 1) := by decide +kernel
theorem dX7_isHolder_6 : decode cX7_isHolder 6 = .ok (.isub, 1) := by decide +kernel
theorem dX7_isHolder_7 : decode cX7_isHolder 7 = .ok (.invokestatic 56, 3) := by decide +kernel
theorem dX7_isHolder_10 : decode cX7_isHolder 10 = .ok (.ifCond .eq 24, 3) := by decide +kernel
theorem dX7_isHolder_13 : decode cX7_isHolder 13 = .ok (.aload_n 0, 1) := by decide +kernel
theorem dX7_isHolder_14 : decode cX7_isHolder 14 = .ok (.iconst 1, 1) := by decide +kernel
theorem dX7_isHolder_15 : decode cX7_isHolder 15 = .ok (.iload_n 1, 1) := by decide +kernel
theorem dX7_isHolder_16 : decode cX7_isHolder 16 = .ok (.iadd, 1) := by decide +kernel
theorem dX7_isHolder_17 : decode cX7_isHolder 17 = .ok (.iaload, 1) := by decide +kernel
theorem dX7_isHolder_18 : decode cX7_isHolder 18 = .ok (.ifCond .eq 12, 3) := by decide +kernel
theorem dX7_isHolder_21 : decode cX7_isHolder 21 = .ok (.aload_n 0, 1) := by decide +kernel
theorem dX7_isHolder_22 : decode cX7_isHolder 22 = .ok (.iconst 1, 1) := by decide +kernel
theorem dX7_isHolder_23 : decode cX7_isHolder 23 = .ok (.iload_n 1, 1) := by decide +kernel
theorem dX7_isHolder_24 : decode cX7_isHolder 24 = .ok (.iadd, 1) := by decide +kernel
theorem dX7_isHolder_25 : decode cX7_isHolder 25 = .ok (.iaload, 1) := by decide +kernel
theorem dX7_isHolder_26 : decode cX7_isHolder 26 = .ok (.iconst 3, 1) := by decide +kernel
theorem dX7_isHolder_27 : decode cX7_isHolder 27 = .ok (.if_icmp .ne 7, 3) := by decide +kernel
theorem dX7_isHolder_30 : decode cX7_isHolder 30 = .ok (.iconst 1, 1) := by decide +kernel
theorem dX7_isHolder_31 : decode cX7_isHolder 31 = .ok (.goto 4, 3) := by decide +kernel
theorem dX7_isHolder_34 : decode cX7_isHolder 34 = .ok (.iconst 0, 1) := by decide +kernel
theorem dX7_isHolder_35 : decode cX7_isHolder 35 = .ok (.ireturn, 1) := by decide +kernel
theorem dX7_isLetter_0 : decode cX7_isLetter 0 = .ok (.aload_n 0, 1) := by decide +kernel
theorem dX7_isLetter_1 : decode cX7_isLetter 1 = .ok (.getfield 39, 3) := by decide +kernel
theorem dX7_isLetter_4 : decode cX7_isLetter 4 = .ok (.iload_n 1, 1) := by decide +kernel
theorem dX7_isLetter_5 : decode cX7_isLetter 5 = .ok (.iadd, 1) := by decide +kernel
theorem dX7_isLetter_6 : decode cX7_isLetter 6 = .ok (.aload_n 0, 1) := by decide +kernel
theorem dX7_isLetter_7 : decode cX7_isLetter 7 = .ok (.getfield 42, 3) := by decide +kernel
theorem dX7_isLetter_10 : decode cX7_isLetter 10 = .ok (.if_icmp .ge 22, 3) := by decide +kernel
theorem dX7_isLetter_13 : decode cX7_isLetter 13 = .ok (.aload_n 0, 1) := by decide +kernel
theorem dX7_isLetter_14 : decode cX7_isLetter 14 = .ok (.getfield 19, 3) := by decide +kernel
theorem dX7_isLetter_17 : decode cX7_isLetter 17 = .ok (.aload_n 0, 1) := by decide +kernel
theorem dX7_isLetter_18 : decode cX7_isLetter 18 = .ok (.getfield 39, 3) := by decide +kernel
theorem dX7_isLetter_21 : decode cX7_isLetter 21 = .ok (.iload_n 1, 1) := by decide +kernel
theorem dX7_isLetter_22 : decode cX7_isLetter 22 = .ok (.iadd, 1) := by decide +kernel
theorem dX7_isLetter_23 : decode cX7_isLetter 23 = .ok (.iaload, 1) := by decide +kernel
theorem dX7_isLetter_24 : decode cX7_isLetter 24 = .ok (.iload_n 2, 1) := by decide +kernel
theorem dX7_isLetter_25 : decode cX7_isLetter 25 = .ok (.if_icmp .ne 7, 3) := by decide +kernel
theorem dX7_isLetter_28 : decode cX7_isLetter 28 = .ok (.iconst 1, 1) := by decide +kernel
theorem dX7_isLetter_29 : decode cX7_isLetter 29 = .ok (.goto 4, 3) := by decide +kernel
theorem dX7_isLetter_32 : decode cX7_isLetter 32 = .ok (.iconst 0, 1) := by decide +kernel
theorem dX7_isLetter_33 : decode cX7_isLetter 33 = .ok (.ireturn, 1) := by decide +kernel
theorem dX7_isObject_0 : decode cX7_isObject 0 = .ok (.iload_n 1, 1) := by decide +kernel
theorem dX7_isObject_1 : decode cX7_isObject 1 = .ok (.iconst 0, 1) := by decide +kernel
theorem dX7_isObject_2 : decode cX7_isObject 2 = .ok (.aload_n 0, 1) := by decide +kernel
theorem dX7_isObject_3 : decode cX7_isObject 3 = .ok (.getfield 7, 3) := by decide +kernel
theorem dX7_isObject_6 : decode cX7_isObject 6 = .ok (.iconst 0, 1) := by decide +kernel
theorem dX7_isObject_7 : decode cX7_isObject 7 = .ok (.iaload, 1) := by decide +kernel
theorem dX7_isObject_8 : decode cX7_isObject 8 = .ok (.iconst 1, 1) := by decide +kernel
theorem dX7_isObject_9 : decode cX7_isObject 9 = .ok (.isub, 1) := by decide +kernel
theorem dX7_isObject_10 : decode cX7_isObject 10 = .ok (.invokestatic 56, 3) := by decide +kernel
theorem dX7_isObject_13 : decode cX7_isObject 13 = .ok (.ireturn, 1) := by decide +kernel
theorem dX7_isOf_0 : decode cX7_isOf 0 = .ok (.aload_n 0, 1) := by decide +kernel
theorem dX7_isOf_1 : decode cX7_isOf 1 = .ok (.iload_n 1, 1) := by decide +kernel
theorem dX7_isOf_2 : decode cX7_isOf 2 = .ok (.invokevirtual 108, 3) := by decide +kernel
theorem dX7_isOf_5 : decode cX7_isOf 5 = .ok (.ifCond .eq 19, 3) := by decide +kernel
theorem dX7_isOf_8 : decode cX7_isOf 8 = .ok (.aload_n 0, 1) := by decide +kernel
theorem dX7_isOf_9 : decode cX7_isOf 9 = .ok (.getfield 7, 3) := by decide +kernel
theorem dX7_isOf_12 : decode cX7_isOf 12 = .ok (.iconst 1, 1) := by decide +kernel
theorem dX7_isOf_13 : decode cX7_isOf 13 = .ok (.iload_n 1, 1) := by decide +kernel
theorem dX7_isOf_14 : decode cX7_isOf 14 = .ok (.iadd, 1) := by decide +kernel
theorem dX7_isOf_15 : decode cX7_isOf 15 = .ok (.iaload, 1) := by decide +kernel
theorem dX7_isOf_16 : decode cX7_isOf 16 = .ok (.iload_n 2, 1) := by decide +kernel
theorem dX7_isOf_17 : decode cX7_isOf 17 = .ok (.if_icmp .ne 7, 3) := by decide +kernel
theorem dX7_isOf_20 : decode cX7_isOf 20 = .ok (.iconst 1, 1) := by decide +kernel
theorem dX7_isOf_21 : decode cX7_isOf 21 = .ok (.goto 4, 3) := by decide +kernel
theorem dX7_isOf_24 : decode cX7_isOf 24 = .ok (.iconst 0, 1) := by decide +kernel
theorem dX7_isOf_25 : decode cX7_isOf 25 = .ok (.ireturn, 1) := by decide +kernel
theorem dX7_keyOf_0 : decode cX7_keyOf 0 = .ok (.iconst 0, 1) := by decide +kernel
theorem dX7_keyOf_1 : decode cX7_keyOf 1 = .ok (.istore 4, 2) := by decide +kernel
theorem dX7_keyOf_3 : decode cX7_keyOf 3 = .ok (.iload 4, 2) := by decide +kernel
theorem dX7_keyOf_5 : decode cX7_keyOf 5 = .ok (.aload_n 0, 1) := by decide +kernel
theorem dX7_keyOf_6 : decode cX7_keyOf 6 = .ok (.getfield 7, 3) := by decide +kernel
theorem dX7_keyOf_9 : decode cX7_keyOf 9 = .ok (.iconst 0, 1) := by decide +kernel
theorem dX7_keyOf_10 : decode cX7_keyOf 10 = .ok (.iaload, 1) := by decide +kernel
theorem dX7_keyOf_11 : decode cX7_keyOf 11 = .ok (.if_icmp .ge 47, 3) := by decide +kernel
theorem dX7_keyOf_14 : decode cX7_keyOf 14 = .ok (.aload_n 0, 1) := by decide +kernel
theorem dX7_keyOf_15 : decode cX7_keyOf 15 = .ok (.iload 4, 2) := by decide +kernel
theorem dX7_keyOf_17 : decode cX7_keyOf 17 = .ok (.iconst 2, 1) := by decide +kernel
theorem dX7_keyOf_18 : decode cX7_keyOf 18 = .ok (.invokevirtual 112, 3) := by decide +kernel
theorem dX7_keyOf_21 : decode cX7_keyOf 21 = .ok (.ifCond .eq 31, 3) := by decide +kernel
theorem dX7_keyOf_24 : decode cX7_keyOf 24 = .ok (.aload_n 0, 1) := by decide +kernel
theorem dX7_keyOf_25 : decode cX7_keyOf 25 = .ok (.getfield 7, 3) := by decide +kernel
theorem dX7_keyOf_28 : decode cX7_keyOf 28 = .ok (.bipush 11, 2) := by decide +kernel
theorem dX7_keyOf_30 : decode cX7_keyOf 30 = .ok (.iload 4, 2) := by decide +kernel
theorem dX7_keyOf_32 : decode cX7_keyOf 32 = .ok (.iadd, 1) := by decide +kernel
theorem dX7_keyOf_33 : decode cX7_keyOf 33 = .ok (.iaload, 1) := by decide +kernel
theorem dX7_keyOf_34 : decode cX7_keyOf 34 = .ok (.iload_n 2, 1) := by decide +kernel
theorem dX7_keyOf_35 : decode cX7_keyOf 35 = .ok (.if_icmp .ne 17, 3) := by decide +kernel
theorem dX7_keyOf_38 : decode cX7_keyOf 38 = .ok (.aload_n 0, 1) := by decide +kernel
theorem dX7_keyOf_39 : decode cX7_keyOf 39 = .ok (.iload_n 1, 1) := by decide +kernel
theorem dX7_keyOf_40 : decode cX7_keyOf 40 = .ok (.iload 4, 2) := by decide +kernel
theorem dX7_keyOf_42 : decode cX7_keyOf 42 = .ok (.iload_n 3, 1) := by decide +kernel
theorem dX7_keyOf_43 : decode cX7_keyOf 43 = .ok (.invokevirtual 122, 3) := by decide +kernel
theorem dX7_keyOf_46 : decode cX7_keyOf 46 = .ok (.ifCond .eq 6, 3) := by decide +kernel
theorem dX7_keyOf_49 : decode cX7_keyOf 49 = .ok (.iload 4, 2) := by decide +kernel
theorem dX7_keyOf_51 : decode cX7_keyOf 51 = .ok (.ireturn, 1) := by decide +kernel
theorem dX7_keyOf_52 : decode cX7_keyOf 52 = .ok (.iinc 4 1, 3) := by decide +kernel
theorem dX7_keyOf_55 : decode cX7_keyOf 55 = .ok (.goto (-52), 3) := by decide +kernel
theorem dX7_keyOf_58 : decode cX7_keyOf 58 = .ok (.bipush (-9), 2) := by decide +kernel
theorem dX7_keyOf_60 : decode cX7_keyOf 60 = .ok (.ireturn, 1) := by decide +kernel
theorem dX7_keyword_0 : decode cX7_keyword 0 = .ok (.aload_n 0, 1) := by decide +kernel
theorem dX7_keyword_1 : decode cX7_keyword 1 = .ok (.getfield 42, 3) := by decide +kernel
theorem dX7_keyword_4 : decode cX7_keyword 4 = .ok (.aload_n 0, 1) := by decide +kernel
theorem dX7_keyword_5 : decode cX7_keyword 5 = .ok (.getfield 39, 3) := by decide +kernel
theorem dX7_keyword_8 : decode cX7_keyword 8 = .ok (.isub, 1) := by decide +kernel
theorem dX7_keyword_9 : decode cX7_keyword 9 = .ok (.istore_n 1, 1) := by decide +kernel
theorem dX7_keyword_10 : decode cX7_keyword 10 = .ok (.iload_n 1, 1) := by decide +kernel
theorem dX7_keyword_11 : decode cX7_keyword 11 = .ok (.iconst 5, 1) := by decide +kernel
theorem dX7_keyword_12 : decode cX7_keyword 12 = .ok (.if_icmp .ne 55, 3) := by decide +kernel
theorem dX7_keyword_15 : decode cX7_keyword 15 = .ok (.aload_n 0, 1) := by decide +kernel
theorem dX7_keyword_16 : decode cX7_keyword 16 = .ok (.iconst 0, 1) := by decide +kernel
theorem dX7_keyword_17 : decode cX7_keyword 17 = .ok (.bipush 97, 2) := by decide +kernel
theorem dX7_keyword_19 : decode cX7_keyword 19 = .ok (.invokevirtual 45, 3) := by decide +kernel
theorem dX7_keyword_22 : decode cX7_keyword 22 = .ok (.ifCond .eq 45, 3) := by decide +kernel
theorem dX7_keyword_25 : decode cX7_keyword 25 = .ok (.aload_n 0, 1) := by decide +kernel
theorem dX7_keyword_26 : decode cX7_keyword 26 = .ok (.iconst 1, 1) := by decide +kernel
theorem dX7_keyword_27 : decode cX7_keyword 27 = .ok (.bipush 103, 2) := by decide +kernel
theorem dX7_keyword_29 : decode cX7_keyword 29 = .ok (.invokevirtual 45, 3) := by decide +kernel
theorem dX7_keyword_32 : decode cX7_keyword 32 = .ok (.ifCond .eq 35, 3) := by decide +kernel
theorem dX7_keyword_35 : decode cX7_keyword 35 = .ok (.aload_n 0, 1) := by decide +kernel
theorem dX7_keyword_36 : decode cX7_keyword 36 = .ok (.iconst 2, 1) := by decide +kernel
theorem dX7_keyword_37 : decode cX7_keyword 37 = .ok (.bipush 101, 2) := by decide +kernel
theorem dX7_keyword_39 : decode cX7_keyword 39 = .ok (.invokevirtual 45, 3) := by decide +kernel
theorem dX7_keyword_42 : decode cX7_keyword 42 = .ok (.ifCond .eq 25, 3) := by decide +kernel
theorem dX7_keyword_45 : decode cX7_keyword 45 = .ok (.aload_n 0, 1) := by decide +kernel
theorem dX7_keyword_46 : decode cX7_keyword 46 = .ok (.iconst 3, 1) := by decide +kernel
theorem dX7_keyword_47 : decode cX7_keyword 47 = .ok (.bipush 110, 2) := by decide +kernel
theorem dX7_keyword_49 : decode cX7_keyword 49 = .ok (.invokevirtual 45, 3) := by decide +kernel
theorem dX7_keyword_52 : decode cX7_keyword 52 = .ok (.ifCond .eq 15, 3) := by decide +kernel
theorem dX7_keyword_55 : decode cX7_keyword 55 = .ok (.aload_n 0, 1) := by decide +kernel
theorem dX7_keyword_56 : decode cX7_keyword 56 = .ok (.iconst 4, 1) := by decide +kernel
theorem dX7_keyword_57 : decode cX7_keyword 57 = .ok (.bipush 116, 2) := by decide +kernel
theorem dX7_keyword_59 : decode cX7_keyword 59 = .ok (.invokevirtual 45, 3) := by decide +kernel
theorem dX7_keyword_62 : decode cX7_keyword 62 = .ok (.ifCond .eq 5, 3) := by decide +kernel
theorem dX7_keyword_65 : decode cX7_keyword 65 = .ok (.iconst 0, 1) := by decide +kernel
theorem dX7_keyword_66 : decode cX7_keyword 66 = .ok (.ireturn, 1) := by decide +kernel
theorem dX7_keyword_67 : decode cX7_keyword 67 = .ok (.iload_n 1, 1) := by decide +kernel
theorem dX7_keyword_68 : decode cX7_keyword 68 = .ok (.iconst 3, 1) := by decide +kernel
theorem dX7_keyword_69 : decode cX7_keyword 69 = .ok (.if_icmp .ne 35, 3) := by decide +kernel
theorem dX7_keyword_72 : decode cX7_keyword 72 = .ok (.aload_n 0, 1) := by decide +kernel
theorem dX7_keyword_73 : decode cX7_keyword 73 = .ok (.iconst 0, 1) := by decide +kernel
theorem dX7_keyword_74 : decode cX7_keyword 74 = .ok (.bipush 98, 2) := by decide +kernel
theorem dX7_keyword_76 : decode cX7_keyword 76 = .ok (.invokevirtual 45, 3) := by decide +kernel
theorem dX7_keyword_79 : decode cX7_keyword 79 = .ok (.ifCond .eq 25, 3) := by decide +kernel
theorem dX7_keyword_82 : decode cX7_keyword 82 = .ok (.aload_n 0, 1) := by decide +kernel
theorem dX7_keyword_83 : decode cX7_keyword 83 = .ok (.iconst 1, 1) := by decide +kernel
theorem dX7_keyword_84 : decode cX7_keyword 84 = .ok (.bipush 111, 2) := by decide +kernel
theorem dX7_keyword_86 : decode cX7_keyword 86 = .ok (.invokevirtual 45, 3) := by decide +kernel
theorem dX7_keyword_89 : decode cX7_keyword 89 = .ok (.ifCond .eq 15, 3) := by decide +kernel
theorem dX7_keyword_92 : decode cX7_keyword 92 = .ok (.aload_n 0, 1) := by decide +kernel
theorem dX7_keyword_93 : decode cX7_keyword 93 = .ok (.iconst 2, 1) := by decide +kernel
theorem dX7_keyword_94 : decode cX7_keyword 94 = .ok (.bipush 120, 2) := by decide +kernel
theorem dX7_keyword_96 : decode cX7_keyword 96 = .ok (.invokevirtual 45, 3) := by decide +kernel
theorem dX7_keyword_99 : decode cX7_keyword 99 = .ok (.ifCond .eq 5, 3) := by decide +kernel
theorem dX7_keyword_102 : decode cX7_keyword 102 = .ok (.iconst 1, 1) := by decide +kernel
theorem dX7_keyword_103 : decode cX7_keyword 103 = .ok (.ireturn, 1) := by decide +kernel
theorem dX7_keyword_104 : decode cX7_keyword 104 = .ok (.iload_n 1, 1) := by decide +kernel
theorem dX7_keyword_105 : decode cX7_keyword 105 = .ok (.iconst 3, 1) := by decide +kernel
theorem dX7_keyword_106 : decode cX7_keyword 106 = .ok (.if_icmp .ne 35, 3) := by decide +kernel
theorem dX7_keyword_109 : decode cX7_keyword 109 = .ok (.aload_n 0, 1) := by decide +kernel
theorem dX7_keyword_110 : decode cX7_keyword 110 = .ok (.iconst 0, 1) := by decide +kernel
theorem dX7_keyword_111 : decode cX7_keyword 111 = .ok (.bipush 107, 2) := by decide +kernel
theorem dX7_keyword_113 : decode cX7_keyword 113 = .ok (.invokevirtual 45, 3) := by decide +kernel
theorem dX7_keyword_116 : decode cX7_keyword 116 = .ok (.ifCond .eq 25, 3) := by decide +kernel
theorem dX7_keyword_119 : decode cX7_keyword 119 = .ok (.aload_n 0, 1) := by decide +kernel
theorem dX7_keyword_120 : decode cX7_keyword 120 = .ok (.iconst 1, 1) := by decide +kernel
theorem dX7_keyword_121 : decode cX7_keyword 121 = .ok (.bipush 101, 2) := by decide +kernel
theorem dX7_keyword_123 : decode cX7_keyword 123 = .ok (.invokevirtual 45, 3) := by decide +kernel
theorem dX7_keyword_126 : decode cX7_keyword 126 = .ok (.ifCond .eq 15, 3) := by decide +kernel
theorem dX7_keyword_129 : decode cX7_keyword 129 = .ok (.aload_n 0, 1) := by decide +kernel
theorem dX7_keyword_130 : decode cX7_keyword 130 = .ok (.iconst 2, 1) := by decide +kernel
theorem dX7_keyword_131 : decode cX7_keyword 131 = .ok (.bipush 121, 2) := by decide +kernel
theorem dX7_keyword_133 : decode cX7_keyword 133 = .ok (.invokevirtual 45, 3) := by decide +kernel
theorem dX7_keyword_136 : decode cX7_keyword 136 = .ok (.ifCond .eq 5, 3) := by decide +kernel
theorem dX7_keyword_139 : decode cX7_keyword 139 = .ok (.iconst 2, 1) := by decide +kernel
theorem dX7_keyword_140 : decode cX7_keyword 140 = .ok (.ireturn, 1) := by decide +kernel
theorem dX7_keyword_141 : decode cX7_keyword 141 = .ok (.iload_n 1, 1) := by decide +kernel
theorem dX7_keyword_142 : decode cX7_keyword 142 = .ok (.iconst 4, 1) := by decide +kernel
theorem dX7_keyword_143 : decode cX7_keyword 143 = .ok (.if_icmp .ne 45, 3) := by decide +kernel
theorem dX7_keyword_146 : decode cX7_keyword 146 = .ok (.aload_n 0, 1) := by decide +kernel
theorem dX7_keyword_147 : decode cX7_keyword 147 = .ok (.iconst 0, 1) := by decide +kernel
theorem dX7_keyword_148 : decode cX7_keyword 148 = .ok (.bipush 104, 2) := by decide +kernel
theorem dX7_keyword_150 : decode cX7_keyword 150 = .ok (.invokevirtual 45, 3) := by decide +kernel
theorem dX7_keyword_153 : decode cX7_keyword 153 = .ok (.ifCond .eq 35, 3) := by decide +kernel
theorem dX7_keyword_156 : decode cX7_keyword 156 = .ok (.aload_n 0, 1) := by decide +kernel
theorem dX7_keyword_157 : decode cX7_keyword 157 = .ok (.iconst 1, 1) := by decide +kernel
theorem dX7_keyword_158 : decode cX7_keyword 158 = .ok (.bipush 111, 2) := by decide +kernel
theorem dX7_keyword_160 : decode cX7_keyword 160 = .ok (.invokevirtual 45, 3) := by decide +kernel
theorem dX7_keyword_163 : decode cX7_keyword 163 = .ok (.ifCond .eq 25, 3) := by decide +kernel
theorem dX7_keyword_166 : decode cX7_keyword 166 = .ok (.aload_n 0, 1) := by decide +kernel
theorem dX7_keyword_167 : decode cX7_keyword 167 = .ok (.iconst 2, 1) := by decide +kernel
theorem dX7_keyword_168 : decode cX7_keyword 168 = .ok (.bipush 108, 2) := by decide +kernel
theorem dX7_keyword_170 : decode cX7_keyword 170 = .ok (.invokevirtual 45, 3) := by decide +kernel
theorem dX7_keyword_173 : decode cX7_keyword 173 = .ok (.ifCond .eq 15, 3) := by decide +kernel
theorem dX7_keyword_176 : decode cX7_keyword 176 = .ok (.aload_n 0, 1) := by decide +kernel
theorem dX7_keyword_177 : decode cX7_keyword 177 = .ok (.iconst 3, 1) := by decide +kernel
theorem dX7_keyword_178 : decode cX7_keyword 178 = .ok (.bipush 100, 2) := by decide +kernel
theorem dX7_keyword_180 : decode cX7_keyword 180 = .ok (.invokevirtual 45, 3) := by decide +kernel
theorem dX7_keyword_183 : decode cX7_keyword 183 = .ok (.ifCond .eq 5, 3) := by decide +kernel
theorem dX7_keyword_186 : decode cX7_keyword 186 = .ok (.iconst 4, 1) := by decide +kernel
theorem dX7_keyword_187 : decode cX7_keyword 187 = .ok (.ireturn, 1) := by decide +kernel
theorem dX7_keyword_188 : decode cX7_keyword 188 = .ok (.iload_n 1, 1) := by decide +kernel
theorem dX7_keyword_189 : decode cX7_keyword 189 = .ok (.bipush 7, 2) := by decide +kernel
theorem dX7_keyword_191 : decode cX7_keyword 191 = .ok (.if_icmp .ne 78, 3) := by decide +kernel
theorem dX7_keyword_194 : decode cX7_keyword 194 = .ok (.aload_n 0, 1) := by decide +kernel
theorem dX7_keyword_195 : decode cX7_keyword 195 = .ok (.iconst 0, 1) := by decide +kernel
theorem dX7_keyword_196 : decode cX7_keyword 196 = .ok (.bipush 102, 2) := by decide +kernel
theorem dX7_keyword_198 : decode cX7_keyword 198 = .ok (.invokevirtual 45, 3) := by decide +kernel
theorem dX7_keyword_201 : decode cX7_keyword 201 = .ok (.ifCond .eq 68, 3) := by decide +kernel
theorem dX7_keyword_204 : decode cX7_keyword 204 = .ok (.aload_n 0, 1) := by decide +kernel
theorem dX7_keyword_205 : decode cX7_keyword 205 = .ok (.iconst 1, 1) := by decide +kernel
theorem dX7_keyword_206 : decode cX7_keyword 206 = .ok (.bipush 97, 2) := by decide +kernel
theorem dX7_keyword_208 : decode cX7_keyword 208 = .ok (.invokevirtual 45, 3) := by decide +kernel
theorem dX7_keyword_211 : decode cX7_keyword 211 = .ok (.ifCond .eq 58, 3) := by decide +kernel
theorem dX7_keyword_214 : decode cX7_keyword 214 = .ok (.aload_n 0, 1) := by decide +kernel
theorem dX7_keyword_215 : decode cX7_keyword 215 = .ok (.iconst 2, 1) := by decide +kernel
theorem dX7_keyword_216 : decode cX7_keyword 216 = .ok (.bipush 99, 2) := by decide +kernel
theorem dX7_keyword_218 : decode cX7_keyword 218 = .ok (.invokevirtual 45, 3) := by decide +kernel
theorem dX7_keyword_221 : decode cX7_keyword 221 = .ok (.ifCond .eq 48, 3) := by decide +kernel
theorem dX7_keyword_224 : decode cX7_keyword 224 = .ok (.aload_n 0, 1) := by decide +kernel
theorem dX7_keyword_225 : decode cX7_keyword 225 = .ok (.iconst 3, 1) := by decide +kernel
theorem dX7_keyword_226 : decode cX7_keyword 226 = .ok (.bipush 116, 2) := by decide +kernel
theorem dX7_keyword_228 : decode cX7_keyword 228 = .ok (.invokevirtual 45, 3) := by decide +kernel
theorem dX7_keyword_231 : decode cX7_keyword 231 = .ok (.ifCond .eq 38, 3) := by decide +kernel
theorem dX7_keyword_234 : decode cX7_keyword 234 = .ok (.aload_n 0, 1) := by decide +kernel
theorem dX7_keyword_235 : decode cX7_keyword 235 = .ok (.iconst 4, 1) := by decide +kernel
theorem dX7_keyword_236 : decode cX7_keyword 236 = .ok (.bipush 111, 2) := by decide +kernel
theorem dX7_keyword_238 : decode cX7_keyword 238 = .ok (.invokevirtual 45, 3) := by decide +kernel
theorem dX7_keyword_241 : decode cX7_keyword 241 = .ok (.ifCond .eq 28, 3) := by decide +kernel
theorem dX7_keyword_244 : decode cX7_keyword 244 = .ok (.aload_n 0, 1) := by decide +kernel
theorem dX7_keyword_245 : decode cX7_keyword 245 = .ok (.iconst 5, 1) := by decide +kernel
theorem dX7_keyword_246 : decode cX7_keyword 246 = .ok (.bipush 114, 2) := by decide +kernel
theorem dX7_keyword_248 : decode cX7_keyword 248 = .ok (.invokevirtual 45, 3) := by decide +kernel
theorem dX7_keyword_251 : decode cX7_keyword 251 = .ok (.ifCond .eq 18, 3) := by decide +kernel
theorem dX7_keyword_254 : decode cX7_keyword 254 = .ok (.aload_n 0, 1) := by decide +kernel
theorem dX7_keyword_255 : decode cX7_keyword 255 = .ok (.bipush 6, 2) := by decide +kernel
theorem dX7_keyword_257 : decode cX7_keyword 257 = .ok (.bipush 121, 2) := by decide +kernel
theorem dX7_keyword_259 : decode cX7_keyword 259 = .ok (.invokevirtual 45, 3) := by decide +kernel
theorem dX7_keyword_262 : decode cX7_keyword 262 = .ok (.ifCond .eq 7, 3) := by decide +kernel
theorem dX7_keyword_265 : decode cX7_keyword 265 = .ok (.iconst 1, 1) := by decide +kernel
theorem dX7_keyword_266 : decode cX7_keyword 266 = .ok (.goto 4, 3) := by decide +kernel
theorem dX7_keyword_269 : decode cX7_keyword 269 = .ok (.iconst 0, 1) := by decide +kernel
theorem dX7_keyword_270 : decode cX7_keyword 270 = .ok (.istore_n 2, 1) := by decide +kernel
theorem dX7_keyword_271 : decode cX7_keyword 271 = .ok (.iload_n 2, 1) := by decide +kernel
theorem dX7_keyword_272 : decode cX7_keyword 272 = .ok (.ifCond .eq 7, 3) := by decide +kernel
theorem dX7_keyword_275 : decode cX7_keyword 275 = .ok (.iconst 3, 1) := by decide +kernel
theorem dX7_keyword_276 : decode cX7_keyword 276 = .ok (.goto 5, 3) := by decide +kernel
theorem dX7_keyword_279 : decode cX7_keyword 279 = .ok (.bipush (-9), 2) := by decide +kernel
theorem dX7_keyword_281 : decode cX7_keyword 281 = .ok (.ireturn, 1) := by decide +kernel
theorem dX7_kind_0 : decode cX7_kind 0 = .ok (.aload_n 0, 1) := by decide +kernel
theorem dX7_kind_1 : decode cX7_kind 1 = .ok (.iconst 0, 1) := by decide +kernel
theorem dX7_kind_2 : decode cX7_kind 2 = .ok (.putfield 32, 3) := by decide +kernel
theorem dX7_kind_5 : decode cX7_kind 5 = .ok (.aload_n 0, 1) := by decide +kernel
theorem dX7_kind_6 : decode cX7_kind 6 = .ok (.iload_n 1, 1) := by decide +kernel
theorem dX7_kind_7 : decode cX7_kind 7 = .ok (.invokevirtual 108, 3) := by decide +kernel
theorem dX7_kind_10 : decode cX7_kind 10 = .ok (.ifCond .eq 14, 3) := by decide +kernel
theorem dX7_kind_13 : decode cX7_kind 13 = .ok (.aload_n 0, 1) := by decide +kernel
theorem dX7_kind_14 : decode cX7_kind 14 = .ok (.getfield 7, 3) := by decide +kernel
theorem dX7_kind_17 : decode cX7_kind 17 = .ok (.iconst 1, 1) := by decide +kernel
theorem dX7_kind_18 : decode cX7_kind 18 = .ok (.iload_n 1, 1) := by decide +kernel
theorem dX7_kind_19 : decode cX7_kind 19 = .ok (.iadd, 1) := by decide +kernel
theorem dX7_kind_20 : decode cX7_kind 20 = .ok (.iaload, 1) := by decide +kernel
theorem dX7_kind_21 : decode cX7_kind 21 = .ok (.goto 4, 3) := by decide +kernel
theorem dX7_kind_24 : decode cX7_kind 24 = .ok (.iconst (-1), 1) := by decide +kernel
theorem dX7_kind_25 : decode cX7_kind 25 = .ok (.ireturn, 1) := by decide +kernel
theorem dX7_lastRound_0 : decode cX7_lastRound 0 = .ok (.aload_n 0, 1) := by decide +kernel
theorem dX7_lastRound_1 : decode cX7_lastRound 1 = .ok (.iconst 0, 1) := by decide +kernel
theorem dX7_lastRound_2 : decode cX7_lastRound 2 = .ok (.putfield 32, 3) := by decide +kernel
theorem dX7_lastRound_5 : decode cX7_lastRound 5 = .ok (.aload_n 0, 1) := by decide +kernel
theorem dX7_lastRound_6 : decode cX7_lastRound 6 = .ok (.iconst 0, 1) := by decide +kernel
theorem dX7_lastRound_7 : decode cX7_lastRound 7 = .ok (.invokevirtual 163, 3) := by decide +kernel
theorem dX7_lastRound_10 : decode cX7_lastRound 10 = .ok (.aload_n 0, 1) := by decide +kernel
theorem dX7_lastRound_11 : decode cX7_lastRound 11 = .ok (.getfield 154, 3) := by decide +kernel
theorem dX7_lastRound_14 : decode cX7_lastRound 14 = .ok (.ireturn, 1) := by decide +kernel
theorem dX7_load_0 : decode cX7_load 0 = .ok (.aload_n 0, 1) := by decide +kernel
theorem dX7_load_1 : decode cX7_load 1 = .ok (.iconst 0, 1) := by decide +kernel
theorem dX7_load_2 : decode cX7_load 2 = .ok (.putfield 32, 3) := by decide +kernel
theorem dX7_load_5 : decode cX7_load 5 = .ok (.iconst 0, 1) := by decide +kernel
theorem dX7_load_6 : decode cX7_load 6 = .ok (.istore_n 1, 1) := by decide +kernel
theorem dX7_load_7 : decode cX7_load 7 = .ok (.iload_n 1, 1) := by decide +kernel
theorem dX7_load_8 : decode cX7_load 8 = .ok (.bipush 81, 2) := by decide +kernel
theorem dX7_load_10 : decode cX7_load 10 = .ok (.if_icmp .ge 16, 3) := by decide +kernel
theorem dX7_load_13 : decode cX7_load 13 = .ok (.aload_n 0, 1) := by decide +kernel
theorem dX7_load_14 : decode cX7_load 14 = .ok (.getfield 13, 3) := by decide +kernel
theorem dX7_load_17 : decode cX7_load 17 = .ok (.iload_n 1, 1) := by decide +kernel
theorem dX7_load_18 : decode cX7_load 18 = .ok (.iconst 0, 1) := by decide +kernel
theorem dX7_load_19 : decode cX7_load 19 = .ok (.iastore, 1) := by decide +kernel
theorem dX7_load_20 : decode cX7_load 20 = .ok (.iinc 1 1, 3) := by decide +kernel
theorem dX7_load_23 : decode cX7_load 23 = .ok (.goto (-16), 3) := by decide +kernel
theorem dX7_load_26 : decode cX7_load 26 = .ok (.aload_n 0, 1) := by decide +kernel
theorem dX7_load_27 : decode cX7_load 27 = .ok (.bipush (-9), 2) := by decide +kernel
theorem dX7_load_29 : decode cX7_load 29 = .ok (.putfield 67, 3) := by decide +kernel
theorem dX7_load_32 : decode cX7_load 32 = .ok (.aload_n 0, 1) := by decide +kernel
theorem dX7_load_33 : decode cX7_load 33 = .ok (.iconst 0, 1) := by decide +kernel
theorem dX7_load_34 : decode cX7_load 34 = .ok (.putfield 42, 3) := by decide +kernel
theorem dX7_load_37 : decode cX7_load 37 = .ok (.aload_n 0, 1) := by decide +kernel
theorem dX7_load_38 : decode cX7_load 38 = .ok (.invokevirtual 74, 3) := by decide +kernel
theorem dX7_load_41 : decode cX7_load 41 = .ok (.aload_n 0, 1) := by decide +kernel
theorem dX7_load_42 : decode cX7_load 42 = .ok (.invokevirtual 70, 3) := by decide +kernel
theorem dX7_load_45 : decode cX7_load 45 = .ok (.ifCond .eq 136, 3) := by decide +kernel
theorem dX7_load_48 : decode cX7_load 48 = .ok (.aload_n 0, 1) := by decide +kernel
theorem dX7_load_49 : decode cX7_load 49 = .ok (.getfield 53, 3) := by decide +kernel
theorem dX7_load_52 : decode cX7_load 52 = .ok (.ifCond .eq 129, 3) := by decide +kernel
theorem dX7_load_55 : decode cX7_load 55 = .ok (.aload_n 0, 1) := by decide +kernel
theorem dX7_load_56 : decode cX7_load 56 = .ok (.getfield 64, 3) := by decide +kernel
theorem dX7_load_59 : decode cX7_load 59 = .ok (.iconst 4, 1) := by decide +kernel
theorem dX7_load_60 : decode cX7_load 60 = .ok (.if_icmp .ne 23, 3) := by decide +kernel
theorem dX7_load_63 : decode cX7_load 63 = .ok (.aload_n 0, 1) := by decide +kernel
theorem dX7_load_64 : decode cX7_load 64 = .ok (.getfield 13, 3) := by decide +kernel
theorem dX7_load_67 : decode cX7_load 67 = .ok (.bipush 41, 2) := by decide +kernel
theorem dX7_load_69 : decode cX7_load 69 = .ok (.iaload, 1) := by decide +kernel
theorem dX7_load_70 : decode cX7_load 70 = .ok (.bipush 10, 2) := by decide +kernel
theorem dX7_load_72 : decode cX7_load 72 = .ok (.if_icmp .ge 7, 3) := by decide +kernel
theorem dX7_load_75 : decode cX7_load 75 = .ok (.iconst 1, 1) := by decide +kernel
theorem dX7_load_76 : decode cX7_load 76 = .ok (.goto 23, 3) := by decide +kernel
theorem dX7_load_79 : decode cX7_load 79 = .ok (.iconst 0, 1) := by decide +kernel
theorem dX7_load_80 : decode cX7_load 80 = .ok (.goto 19, 3) := by decide +kernel
theorem dX7_load_83 : decode cX7_load 83 = .ok (.aload_n 0, 1) := by decide +kernel
theorem dX7_load_84 : decode cX7_load 84 = .ok (.getfield 13, 3) := by decide +kernel
theorem dX7_load_87 : decode cX7_load 87 = .ok (.iconst 0, 1) := by decide +kernel
theorem dX7_load_88 : decode cX7_load 88 = .ok (.iaload, 1) := by decide +kernel
theorem dX7_load_89 : decode cX7_load 89 = .ok (.bipush 10, 2) := by decide +kernel
theorem dX7_load_91 : decode cX7_load 91 = .ok (.if_icmp .ge 7, 3) := by decide +kernel
theorem dX7_load_94 : decode cX7_load 94 = .ok (.iconst 1, 1) := by decide +kernel
theorem dX7_load_95 : decode cX7_load 95 = .ok (.goto 4, 3) := by decide +kernel
theorem dX7_load_98 : decode cX7_load 98 = .ok (.iconst 0, 1) := by decide +kernel
theorem dX7_load_99 : decode cX7_load 99 = .ok (.istore_n 1, 1) := by decide +kernel
theorem dX7_load_100 : decode cX7_load 100 = .ok (.aload_n 0, 1) := by decide +kernel
theorem dX7_load_101 : decode cX7_load 101 = .ok (.aload_n 0, 1) := by decide +kernel
theorem dX7_load_102 : decode cX7_load 102 = .ok (.getfield 53, 3) := by decide +kernel
theorem dX7_load_105 : decode cX7_load 105 = .ok (.iconst 1, 1) := by decide +kernel
theorem dX7_load_106 : decode cX7_load 106 = .ok (.if_icmp .ne 18, 3) := by decide +kernel
theorem dX7_load_109 : decode cX7_load 109 = .ok (.aload_n 0, 1) := by decide +kernel
theorem dX7_load_110 : decode cX7_load 110 = .ok (.getfield 64, 3) := by decide +kernel
theorem dX7_load_113 : decode cX7_load 113 = .ok (.ifCond .lt 11, 3) := by decide +kernel
theorem dX7_load_116 : decode cX7_load 116 = .ok (.iload_n 1, 1) := by decide +kernel
theorem dX7_load_117 : decode cX7_load 117 = .ok (.ifCond .eq 7, 3) := by decide +kernel
theorem dX7_load_120 : decode cX7_load 120 = .ok (.iconst 1, 1) := by decide +kernel
theorem dX7_load_121 : decode cX7_load 121 = .ok (.goto 4, 3) := by decide +kernel
theorem dX7_load_124 : decode cX7_load 124 = .ok (.iconst 0, 1) := by decide +kernel
theorem dX7_load_125 : decode cX7_load 125 = .ok (.invokevirtual 77, 3) := by decide +kernel
theorem dX7_load_128 : decode cX7_load 128 = .ok (.istore_n 2, 1) := by decide +kernel
theorem dX7_load_129 : decode cX7_load 129 = .ok (.aload_n 0, 1) := by decide +kernel
theorem dX7_load_130 : decode cX7_load 130 = .ok (.invokevirtual 70, 3) := by decide +kernel
theorem dX7_load_133 : decode cX7_load 133 = .ok (.ifCond .eq 15, 3) := by decide +kernel
theorem dX7_load_136 : decode cX7_load 136 = .ok (.iload_n 2, 1) := by decide +kernel
theorem dX7_load_137 : decode cX7_load 137 = .ok (.iconst 4, 1) := by decide +kernel
theorem dX7_load_138 : decode cX7_load 138 = .ok (.if_icmp .ne 10, 3) := by decide +kernel
theorem dX7_load_141 : decode cX7_load 141 = .ok (.aload_n 0, 1) := by decide +kernel
theorem dX7_load_142 : decode cX7_load 142 = .ok (.invokevirtual 92, 3) := by decide +kernel
theorem dX7_load_145 : decode cX7_load 145 = .ok (.goto 15, 3) := by decide +kernel
theorem dX7_load_148 : decode cX7_load 148 = .ok (.aload_n 0, 1) := by decide +kernel
theorem dX7_load_149 : decode cX7_load 149 = .ok (.invokevirtual 70, 3) := by decide +kernel
theorem dX7_load_152 : decode cX7_load 152 = .ok (.ifCond .eq 8, 3) := by decide +kernel
theorem dX7_load_155 : decode cX7_load 155 = .ok (.aload_n 0, 1) := by decide +kernel
theorem dX7_load_156 : decode cX7_load 156 = .ok (.iload_n 2, 1) := by decide +kernel
theorem dX7_load_157 : decode cX7_load 157 = .ok (.invokevirtual 95, 3) := by decide +kernel
theorem dX7_load_160 : decode cX7_load 160 = .ok (.aload_n 0, 1) := by decide +kernel
theorem dX7_load_161 : decode cX7_load 161 = .ok (.aload_n 0, 1) := by decide +kernel
theorem dX7_load_162 : decode cX7_load 162 = .ok (.getfield 53, 3) := by decide +kernel
theorem dX7_load_165 : decode cX7_load 165 = .ok (.iconst 3, 1) := by decide +kernel
theorem dX7_load_166 : decode cX7_load 166 = .ok (.if_icmp .ne 7, 3) := by decide +kernel
theorem dX7_load_169 : decode cX7_load 169 = .ok (.iconst 1, 1) := by decide +kernel
theorem dX7_load_170 : decode cX7_load 170 = .ok (.goto 4, 3) := by decide +kernel
theorem dX7_load_173 : decode cX7_load 173 = .ok (.iconst 0, 1) := by decide +kernel
theorem dX7_load_174 : decode cX7_load 174 = .ok (.invokevirtual 77, 3) := by decide +kernel
theorem dX7_load_177 : decode cX7_load 177 = .ok (.pop, 1) := by decide +kernel
theorem dX7_load_178 : decode cX7_load 178 = .ok (.goto (-137), 3) := by decide +kernel
theorem dX7_load_181 : decode cX7_load 181 = .ok (.aload_n 0, 1) := by decide +kernel
theorem dX7_load_182 : decode cX7_load 182 = .ok (.invokevirtual 70, 3) := by decide +kernel
theorem dX7_load_185 : decode cX7_load 185 = .ok (.ifCond .ne 11, 3) := by decide +kernel
theorem dX7_load_188 : decode cX7_load 188 = .ok (.bipush (-10), 2) := by decide +kernel
theorem dX7_load_190 : decode cX7_load 190 = .ok (.aload_n 0, 1) := by decide +kernel
theorem dX7_load_191 : decode cX7_load 191 = .ok (.getfield 67, 3) := by decide +kernel
theorem dX7_load_194 : decode cX7_load 194 = .ok (.isub, 1) := by decide +kernel
theorem dX7_load_195 : decode cX7_load 195 = .ok (.ireturn, 1) := by decide +kernel
theorem dX7_load_196 : decode cX7_load 196 = .ok (.aload_n 0, 1) := by decide +kernel
theorem dX7_load_197 : decode cX7_load 197 = .ok (.invokevirtual 99, 3) := by decide +kernel
theorem dX7_load_200 : decode cX7_load 200 = .ok (.iconst 0, 1) := by decide +kernel
theorem dX7_load_201 : decode cX7_load 201 = .ok (.istore_n 1, 1) := by decide +kernel
theorem dX7_load_202 : decode cX7_load 202 = .ok (.iload_n 1, 1) := by decide +kernel
theorem dX7_load_203 : decode cX7_load 203 = .ok (.bipush 81, 2) := by decide +kernel
theorem dX7_load_205 : decode cX7_load 205 = .ok (.if_icmp .ge 21, 3) := by decide +kernel
theorem dX7_load_208 : decode cX7_load 208 = .ok (.aload_n 0, 1) := by decide +kernel
theorem dX7_load_209 : decode cX7_load 209 = .ok (.getfield 7, 3) := by decide +kernel
theorem dX7_load_212 : decode cX7_load 212 = .ok (.iload_n 1, 1) := by decide +kernel
theorem dX7_load_213 : decode cX7_load 213 = .ok (.aload_n 0, 1) := by decide +kernel
theorem dX7_load_214 : decode cX7_load 214 = .ok (.getfield 13, 3) := by decide +kernel
theorem dX7_load_217 : decode cX7_load 217 = .ok (.iload_n 1, 1) := by decide +kernel
theorem dX7_load_218 : decode cX7_load 218 = .ok (.iaload, 1) := by decide +kernel
theorem dX7_load_219 : decode cX7_load 219 = .ok (.iastore, 1) := by decide +kernel
theorem dX7_load_220 : decode cX7_load 220 = .ok (.iinc 1 1, 3) := by decide +kernel
theorem dX7_load_223 : decode cX7_load 223 = .ok (.goto (-21), 3) := by decide +kernel
theorem dX7_load_226 : decode cX7_load 226 = .ok (.aload_n 0, 1) := by decide +kernel
theorem dX7_load_227 : decode cX7_load 227 = .ok (.invokevirtual 102, 3) := by decide +kernel
theorem dX7_load_230 : decode cX7_load 230 = .ok (.aload_n 0, 1) := by decide +kernel
theorem dX7_load_231 : decode cX7_load 231 = .ok (.iconst 0, 1) := by decide +kernel
theorem dX7_load_232 : decode cX7_load 232 = .ok (.putfield 36, 3) := by decide +kernel
theorem dX7_load_235 : decode cX7_load 235 = .ok (.aload_n 0, 1) := by decide +kernel
theorem dX7_load_236 : decode cX7_load 236 = .ok (.getfield 7, 3) := by decide +kernel
theorem dX7_load_239 : decode cX7_load 239 = .ok (.iconst 0, 1) := by decide +kernel
theorem dX7_load_240 : decode cX7_load 240 = .ok (.iaload, 1) := by decide +kernel
theorem dX7_load_241 : decode cX7_load 241 = .ok (.ireturn, 1) := by decide +kernel
theorem dX7_mayHold_0 : decode cX7_mayHold 0 = .ok (.aload_n 0, 1) := by decide +kernel
theorem dX7_mayHold_1 : decode cX7_mayHold 1 = .ok (.iconst 0, 1) := by decide +kernel
theorem dX7_mayHold_2 : decode cX7_mayHold 2 = .ok (.putfield 32, 3) := by decide +kernel
theorem dX7_mayHold_5 : decode cX7_mayHold 5 = .ok (.aload_n 0, 1) := by decide +kernel
theorem dX7_mayHold_6 : decode cX7_mayHold 6 = .ok (.iload_n 1, 1) := by decide +kernel
theorem dX7_mayHold_7 : decode cX7_mayHold 7 = .ok (.iload_n 2, 1) := by decide +kernel
theorem dX7_mayHold_8 : decode cX7_mayHold 8 = .ok (.invokevirtual 166, 3) := by decide +kernel
theorem dX7_mayHold_11 : decode cX7_mayHold 11 = .ok (.ifCond .ne 7, 3) := by decide +kernel
theorem dX7_mayHold_14 : decode cX7_mayHold 14 = .ok (.iconst (-1), 1) := by decide +kernel
theorem dX7_mayHold_15 : decode cX7_mayHold 15 = .ok (.goto 19, 3) := by decide +kernel
theorem dX7_mayHold_18 : decode cX7_mayHold 18 = .ok (.aload_n 0, 1) := by decide +kernel
theorem dX7_mayHold_19 : decode cX7_mayHold 19 = .ok (.iload_n 1, 1) := by decide +kernel
theorem dX7_mayHold_20 : decode cX7_mayHold 20 = .ok (.iload_n 2, 1) := by decide +kernel
theorem dX7_mayHold_21 : decode cX7_mayHold 21 = .ok (.invokevirtual 169, 3) := by decide +kernel
theorem dX7_mayHold_24 : decode cX7_mayHold 24 = .ok (.bipush (-9), 2) := by decide +kernel
theorem dX7_mayHold_26 : decode cX7_mayHold 26 = .ok (.if_icmp .ne 7, 3) := by decide +kernel
theorem dX7_mayHold_29 : decode cX7_mayHold 29 = .ok (.iconst 0, 1) := by decide +kernel
theorem dX7_mayHold_30 : decode cX7_mayHold 30 = .ok (.goto 4, 3) := by decide +kernel
theorem dX7_mayHold_33 : decode cX7_mayHold 33 = .ok (.iconst 1, 1) := by decide +kernel
theorem dX7_mayHold_34 : decode cX7_mayHold 34 = .ok (.ireturn, 1) := by decide +kernel
theorem dX7_merge_0 : decode cX7_merge 0 = .ok (.iconst 0, 1) := by decide +kernel
theorem dX7_merge_1 : decode cX7_merge 1 = .ok (.istore_n 1, 1) := by decide +kernel
theorem dX7_merge_2 : decode cX7_merge 2 = .ok (.iconst 0, 1) := by decide +kernel
theorem dX7_merge_3 : decode cX7_merge 3 = .ok (.istore_n 2, 1) := by decide +kernel
theorem dX7_merge_4 : decode cX7_merge 4 = .ok (.iload_n 2, 1) := by decide +kernel
theorem dX7_merge_5 : decode cX7_merge 5 = .ok (.aload_n 0, 1) := by decide +kernel
theorem dX7_merge_6 : decode cX7_merge 6 = .ok (.getfield 7, 3) := by decide +kernel
theorem dX7_merge_9 : decode cX7_merge 9 = .ok (.iconst 0, 1) := by decide +kernel
theorem dX7_merge_10 : decode cX7_merge 10 = .ok (.iaload, 1) := by decide +kernel
theorem dX7_merge_11 : decode cX7_merge 11 = .ok (.if_icmp .ge 82, 3) := by decide +kernel
theorem dX7_merge_14 : decode cX7_merge 14 = .ok (.iconst 0, 1) := by decide +kernel
theorem dX7_merge_15 : decode cX7_merge 15 = .ok (.istore_n 3, 1) := by decide +kernel
theorem dX7_merge_16 : decode cX7_merge 16 = .ok (.iload_n 3, 1) := by decide +kernel
theorem dX7_merge_17 : decode cX7_merge 17 = .ok (.aload_n 0, 1) := by decide +kernel
theorem dX7_merge_18 : decode cX7_merge 18 = .ok (.getfield 7, 3) := by decide +kernel
theorem dX7_merge_21 : decode cX7_merge 21 = .ok (.iconst 0, 1) := by decide +kernel
theorem dX7_merge_22 : decode cX7_merge 22 = .ok (.iaload, 1) := by decide +kernel
theorem dX7_merge_23 : decode cX7_merge 23 = .ok (.if_icmp .ge 64, 3) := by decide +kernel
theorem dX7_merge_26 : decode cX7_merge 26 = .ok (.aload_n 0, 1) := by decide +kernel
theorem dX7_merge_27 : decode cX7_merge 27 = .ok (.getfield 22, 3) := by decide +kernel
theorem dX7_merge_30 : decode cX7_merge 30 = .ok (.bipush 10, 2) := by decide +kernel
theorem dX7_merge_32 : decode cX7_merge 32 = .ok (.iload_n 2, 1) := by decide +kernel
theorem dX7_merge_33 : decode cX7_merge 33 = .ok (.imul, 1) := by decide +kernel
theorem dX7_merge_34 : decode cX7_merge 34 = .ok (.iload_n 3, 1) := by decide +kernel
theorem dX7_merge_35 : decode cX7_merge 35 = .ok (.iadd, 1) := by decide +kernel
theorem dX7_merge_36 : decode cX7_merge 36 = .ok (.iaload, 1) := by decide +kernel
theorem dX7_merge_37 : decode cX7_merge 37 = .ok (.bipush (-9), 2) := by decide +kernel
theorem dX7_merge_39 : decode cX7_merge 39 = .ok (.if_icmp .eq 42, 3) := by decide +kernel
theorem dX7_merge_42 : decode cX7_merge 42 = .ok (.aload_n 0, 1) := by decide +kernel
theorem dX7_merge_43 : decode cX7_merge 43 = .ok (.aload_n 0, 1) := by decide +kernel
theorem dX7_merge_44 : decode cX7_merge 44 = .ok (.getfield 7, 3) := by decide +kernel
theorem dX7_merge_47 : decode cX7_merge 47 = .ok (.bipush 31, 2) := by decide +kernel
end
section
theorem dX7_merge_49 : decode cX7_merge 49 = .ok (.iload_n 2, 1) := by decide +kernel
theorem dX7_merge_50 : decode cX7_merge 50 = .ok (.iadd, 1) := by decide +kernel
theorem dX7_merge_51 : decode cX7_merge 51 = .ok (.iaload, 1) := by decide +kernel
theorem dX7_merge_52 : decode cX7_merge 52 = .ok (.aload_n 0, 1) := by decide +kernel
theorem dX7_merge_53 : decode cX7_merge 53 = .ok (.getfield 7, 3) := by decide +kernel
theorem dX7_merge_56 : decode cX7_merge 56 = .ok (.bipush 31, 2) := by decide +kernel
theorem dX7_merge_58 : decode cX7_merge 58 = .ok (.iload_n 3, 1) := by decide +kernel
theorem dX7_merge_59 : decode cX7_merge 59 = .ok (.iadd, 1) := by decide +kernel
theorem dX7_merge_60 : decode cX7_merge 60 = .ok (.iaload, 1) := by decide +kernel
theorem dX7_merge_61 : decode cX7_merge 61 = .ok (.invokevirtual 182, 3) := by decide +kernel
theorem dX7_merge_64 : decode cX7_merge 64 = .ok (.istore 4, 2) := by decide +kernel
theorem dX7_merge_66 : decode cX7_merge 66 = .ok (.iload_n 1, 1) := by decide +kernel
theorem dX7_merge_67 : decode cX7_merge 67 = .ok (.ifCond .ne 8, 3) := by decide +kernel
theorem dX7_merge_70 : decode cX7_merge 70 = .ok (.iload 4, 2) := by decide +kernel
theorem dX7_merge_72 : decode cX7_merge 72 = .ok (.ifCond .eq 7, 3) := by decide +kernel
theorem dX7_merge_75 : decode cX7_merge 75 = .ok (.iconst 1, 1) := by decide +kernel
theorem dX7_merge_76 : decode cX7_merge 76 = .ok (.goto 4, 3) := by decide +kernel
theorem dX7_merge_79 : decode cX7_merge 79 = .ok (.iconst 0, 1) := by decide +kernel
theorem dX7_merge_80 : decode cX7_merge 80 = .ok (.istore_n 1, 1) := by decide +kernel
theorem dX7_merge_81 : decode cX7_merge 81 = .ok (.iinc 3 1, 3) := by decide +kernel
theorem dX7_merge_84 : decode cX7_merge 84 = .ok (.goto (-68), 3) := by decide +kernel
theorem dX7_merge_87 : decode cX7_merge 87 = .ok (.iinc 2 1, 3) := by decide +kernel
theorem dX7_merge_90 : decode cX7_merge 90 = .ok (.goto (-86), 3) := by decide +kernel
theorem dX7_merge_93 : decode cX7_merge 93 = .ok (.iload_n 1, 1) := by decide +kernel
theorem dX7_merge_94 : decode cX7_merge 94 = .ok (.ireturn, 1) := by decide +kernel
theorem dX7_mergeGroups_0 : decode cX7_mergeGroups 0 = .ok (.iconst 0, 1) := by decide +kernel
theorem dX7_mergeGroups_1 : decode cX7_mergeGroups 1 = .ok (.istore_n 3, 1) := by decide +kernel
theorem dX7_mergeGroups_2 : decode cX7_mergeGroups 2 = .ok (.iconst 0, 1) := by decide +kernel
theorem dX7_mergeGroups_3 : decode cX7_mergeGroups 3 = .ok (.istore 4, 2) := by decide +kernel
theorem dX7_mergeGroups_5 : decode cX7_mergeGroups 5 = .ok (.iload 4, 2) := by decide +kernel
theorem dX7_mergeGroups_7 : decode cX7_mergeGroups 7 = .ok (.aload_n 0, 1) := by decide +kernel
theorem dX7_mergeGroups_8 : decode cX7_mergeGroups 8 = .ok (.getfield 7, 3) := by decide +kernel
theorem dX7_mergeGroups_11 : decode cX7_mergeGroups 11 = .ok (.iconst 0, 1) := by decide +kernel
theorem dX7_mergeGroups_12 : decode cX7_mergeGroups 12 = .ok (.iaload, 1) := by decide +kernel
theorem dX7_mergeGroups_13 : decode cX7_mergeGroups 13 = .ok (.if_icmp .ge 144, 3) := by decide +kernel
theorem dX7_mergeGroups_16 : decode cX7_mergeGroups 16 = .ok (.iconst 0, 1) := by decide +kernel
theorem dX7_mergeGroups_17 : decode cX7_mergeGroups 17 = .ok (.istore 5, 2) := by decide +kernel
theorem dX7_mergeGroups_19 : decode cX7_mergeGroups 19 = .ok (.iload 5, 2) := by decide +kernel
theorem dX7_mergeGroups_21 : decode cX7_mergeGroups 21 = .ok (.aload_n 0, 1) := by decide +kernel
theorem dX7_mergeGroups_22 : decode cX7_mergeGroups 22 = .ok (.getfield 7, 3) := by decide +kernel
theorem dX7_mergeGroups_25 : decode cX7_mergeGroups 25 = .ok (.iconst 0, 1) := by decide +kernel
theorem dX7_mergeGroups_26 : decode cX7_mergeGroups 26 = .ok (.iaload, 1) := by decide +kernel
theorem dX7_mergeGroups_27 : decode cX7_mergeGroups 27 = .ok (.if_icmp .ge 124, 3) := by decide +kernel
theorem dX7_mergeGroups_30 : decode cX7_mergeGroups 30 = .ok (.aload_n 0, 1) := by decide +kernel
theorem dX7_mergeGroups_31 : decode cX7_mergeGroups 31 = .ok (.getfield 7, 3) := by decide +kernel
theorem dX7_mergeGroups_34 : decode cX7_mergeGroups 34 = .ok (.bipush 31, 2) := by decide +kernel
theorem dX7_mergeGroups_36 : decode cX7_mergeGroups 36 = .ok (.iload 4, 2) := by decide +kernel
theorem dX7_mergeGroups_38 : decode cX7_mergeGroups 38 = .ok (.iadd, 1) := by decide +kernel
theorem dX7_mergeGroups_39 : decode cX7_mergeGroups 39 = .ok (.iaload, 1) := by decide +kernel
theorem dX7_mergeGroups_40 : decode cX7_mergeGroups 40 = .ok (.iload_n 1, 1) := by decide +kernel
theorem dX7_mergeGroups_41 : decode cX7_mergeGroups 41 = .ok (.if_icmp .ne 51, 3) := by decide +kernel
theorem dX7_mergeGroups_44 : decode cX7_mergeGroups 44 = .ok (.aload_n 0, 1) := by decide +kernel
theorem dX7_mergeGroups_45 : decode cX7_mergeGroups 45 = .ok (.getfield 7, 3) := by decide +kernel
theorem dX7_mergeGroups_48 : decode cX7_mergeGroups 48 = .ok (.bipush 31, 2) := by decide +kernel
theorem dX7_mergeGroups_50 : decode cX7_mergeGroups 50 = .ok (.iload 5, 2) := by decide +kernel
theorem dX7_mergeGroups_52 : decode cX7_mergeGroups 52 = .ok (.iadd, 1) := by decide +kernel
theorem dX7_mergeGroups_53 : decode cX7_mergeGroups 53 = .ok (.iaload, 1) := by decide +kernel
theorem dX7_mergeGroups_54 : decode cX7_mergeGroups 54 = .ok (.iload_n 2, 1) := by decide +kernel
theorem dX7_mergeGroups_55 : decode cX7_mergeGroups 55 = .ok (.if_icmp .ne 37, 3) := by decide +kernel
theorem dX7_mergeGroups_58 : decode cX7_mergeGroups 58 = .ok (.aload_n 0, 1) := by decide +kernel
theorem dX7_mergeGroups_59 : decode cX7_mergeGroups 59 = .ok (.getfield 7, 3) := by decide +kernel
theorem dX7_mergeGroups_62 : decode cX7_mergeGroups 62 = .ok (.iload 4, 2) := by decide +kernel
theorem dX7_mergeGroups_64 : decode cX7_mergeGroups 64 = .ok (.invokestatic 84, 3) := by decide +kernel
theorem dX7_mergeGroups_67 : decode cX7_mergeGroups 67 = .ok (.ifCond .eq 25, 3) := by decide +kernel
theorem dX7_mergeGroups_70 : decode cX7_mergeGroups 70 = .ok (.aload_n 0, 1) := by decide +kernel
theorem dX7_mergeGroups_71 : decode cX7_mergeGroups 71 = .ok (.getfield 22, 3) := by decide +kernel
theorem dX7_mergeGroups_74 : decode cX7_mergeGroups 74 = .ok (.bipush 10, 2) := by decide +kernel
theorem dX7_mergeGroups_76 : decode cX7_mergeGroups 76 = .ok (.iload 4, 2) := by decide +kernel
theorem dX7_mergeGroups_78 : decode cX7_mergeGroups 78 = .ok (.imul, 1) := by decide +kernel
theorem dX7_mergeGroups_79 : decode cX7_mergeGroups 79 = .ok (.iload 5, 2) := by decide +kernel
theorem dX7_mergeGroups_81 : decode cX7_mergeGroups 81 = .ok (.iadd, 1) := by decide +kernel
theorem dX7_mergeGroups_82 : decode cX7_mergeGroups 82 = .ok (.iaload, 1) := by decide +kernel
theorem dX7_mergeGroups_83 : decode cX7_mergeGroups 83 = .ok (.bipush (-9), 2) := by decide +kernel
theorem dX7_mergeGroups_85 : decode cX7_mergeGroups 85 = .ok (.if_icmp .ne 7, 3) := by decide +kernel
theorem dX7_mergeGroups_88 : decode cX7_mergeGroups 88 = .ok (.iconst 1, 1) := by decide +kernel
theorem dX7_mergeGroups_89 : decode cX7_mergeGroups 89 = .ok (.goto 4, 3) := by decide +kernel
theorem dX7_mergeGroups_92 : decode cX7_mergeGroups 92 = .ok (.iconst 0, 1) := by decide +kernel
theorem dX7_mergeGroups_93 : decode cX7_mergeGroups 93 = .ok (.istore 6, 2) := by decide +kernel
theorem dX7_mergeGroups_95 : decode cX7_mergeGroups 95 = .ok (.aload_n 0, 1) := by decide +kernel
theorem dX7_mergeGroups_96 : decode cX7_mergeGroups 96 = .ok (.getfield 22, 3) := by decide +kernel
theorem dX7_mergeGroups_99 : decode cX7_mergeGroups 99 = .ok (.bipush 10, 2) := by decide +kernel
theorem dX7_mergeGroups_101 : decode cX7_mergeGroups 101 = .ok (.iload 4, 2) := by decide +kernel
theorem dX7_mergeGroups_103 : decode cX7_mergeGroups 103 = .ok (.imul, 1) := by decide +kernel
theorem dX7_mergeGroups_104 : decode cX7_mergeGroups 104 = .ok (.iload 5, 2) := by decide +kernel
theorem dX7_mergeGroups_106 : decode cX7_mergeGroups 106 = .ok (.iadd, 1) := by decide +kernel
theorem dX7_mergeGroups_107 : decode cX7_mergeGroups 107 = .ok (.iload 6, 2) := by decide +kernel
theorem dX7_mergeGroups_109 : decode cX7_mergeGroups 109 = .ok (.ifCond .eq 7, 3) := by decide +kernel
theorem dX7_mergeGroups_112 : decode cX7_mergeGroups 112 = .ok (.iconst 0, 1) := by decide +kernel
theorem dX7_mergeGroups_113 : decode cX7_mergeGroups 113 = .ok (.goto 16, 3) := by decide +kernel
theorem dX7_mergeGroups_116 : decode cX7_mergeGroups 116 = .ok (.aload_n 0, 1) := by decide +kernel
theorem dX7_mergeGroups_117 : decode cX7_mergeGroups 117 = .ok (.getfield 22, 3) := by decide +kernel
theorem dX7_mergeGroups_120 : decode cX7_mergeGroups 120 = .ok (.bipush 10, 2) := by decide +kernel
theorem dX7_mergeGroups_122 : decode cX7_mergeGroups 122 = .ok (.iload 4, 2) := by decide +kernel
theorem dX7_mergeGroups_124 : decode cX7_mergeGroups 124 = .ok (.imul, 1) := by decide +kernel
theorem dX7_mergeGroups_125 : decode cX7_mergeGroups 125 = .ok (.iload 5, 2) := by decide +kernel
theorem dX7_mergeGroups_127 : decode cX7_mergeGroups 127 = .ok (.iadd, 1) := by decide +kernel
theorem dX7_mergeGroups_128 : decode cX7_mergeGroups 128 = .ok (.iaload, 1) := by decide +kernel
theorem dX7_mergeGroups_129 : decode cX7_mergeGroups 129 = .ok (.iastore, 1) := by decide +kernel
theorem dX7_mergeGroups_130 : decode cX7_mergeGroups 130 = .ok (.iload_n 3, 1) := by decide +kernel
theorem dX7_mergeGroups_131 : decode cX7_mergeGroups 131 = .ok (.ifCond .ne 8, 3) := by decide +kernel
theorem dX7_mergeGroups_134 : decode cX7_mergeGroups 134 = .ok (.iload 6, 2) := by decide +kernel
theorem dX7_mergeGroups_136 : decode cX7_mergeGroups 136 = .ok (.ifCond .eq 7, 3) := by decide +kernel
theorem dX7_mergeGroups_139 : decode cX7_mergeGroups 139 = .ok (.iconst 1, 1) := by decide +kernel
theorem dX7_mergeGroups_140 : decode cX7_mergeGroups 140 = .ok (.goto 4, 3) := by decide +kernel
theorem dX7_mergeGroups_143 : decode cX7_mergeGroups 143 = .ok (.iconst 0, 1) := by decide +kernel
theorem dX7_mergeGroups_144 : decode cX7_mergeGroups 144 = .ok (.istore_n 3, 1) := by decide +kernel
theorem dX7_mergeGroups_145 : decode cX7_mergeGroups 145 = .ok (.iinc 5 1, 3) := by decide +kernel
theorem dX7_mergeGroups_148 : decode cX7_mergeGroups 148 = .ok (.goto (-129), 3) := by decide +kernel
theorem dX7_mergeGroups_151 : decode cX7_mergeGroups 151 = .ok (.iinc 4 1, 3) := by decide +kernel
theorem dX7_mergeGroups_154 : decode cX7_mergeGroups 154 = .ok (.goto (-149), 3) := by decide +kernel
theorem dX7_mergeGroups_157 : decode cX7_mergeGroups 157 = .ok (.iload_n 3, 1) := by decide +kernel
theorem dX7_mergeGroups_158 : decode cX7_mergeGroups 158 = .ok (.ireturn, 1) := by decide +kernel
theorem dX7_number_0 : decode cX7_number 0 = .ok (.aload_n 0, 1) := by decide +kernel
theorem dX7_number_1 : decode cX7_number 1 = .ok (.aload_n 0, 1) := by decide +kernel
theorem dX7_number_2 : decode cX7_number 2 = .ok (.getfield 53, 3) := by decide +kernel
theorem dX7_number_5 : decode cX7_number 5 = .ok (.iconst 2, 1) := by decide +kernel
theorem dX7_number_6 : decode cX7_number 6 = .ok (.if_icmp .ne 15, 3) := by decide +kernel
theorem dX7_number_9 : decode cX7_number 9 = .ok (.aload_n 0, 1) := by decide +kernel
theorem dX7_number_10 : decode cX7_number 10 = .ok (.getfield 64, 3) := by decide +kernel
theorem dX7_number_13 : decode cX7_number 13 = .ok (.iload_n 1, 1) := by decide +kernel
theorem dX7_number_14 : decode cX7_number 14 = .ok (.if_icmp .gt 7, 3) := by decide +kernel
theorem dX7_number_17 : decode cX7_number 17 = .ok (.iconst 1, 1) := by decide +kernel
theorem dX7_number_18 : decode cX7_number 18 = .ok (.goto 4, 3) := by decide +kernel
theorem dX7_number_21 : decode cX7_number 21 = .ok (.iconst 0, 1) := by decide +kernel
theorem dX7_number_22 : decode cX7_number 22 = .ok (.invokevirtual 77, 3) := by decide +kernel
theorem dX7_number_25 : decode cX7_number 25 = .ok (.ireturn, 1) := by decide +kernel
theorem dX7_objectCount_0 : decode cX7_objectCount 0 = .ok (.aload_n 0, 1) := by decide +kernel
theorem dX7_objectCount_1 : decode cX7_objectCount 1 = .ok (.iconst 0, 1) := by decide +kernel
theorem dX7_objectCount_2 : decode cX7_objectCount 2 = .ok (.putfield 32, 3) := by decide +kernel
theorem dX7_objectCount_5 : decode cX7_objectCount 5 = .ok (.aload_n 0, 1) := by decide +kernel
theorem dX7_objectCount_6 : decode cX7_objectCount 6 = .ok (.getfield 7, 3) := by decide +kernel
theorem dX7_objectCount_9 : decode cX7_objectCount 9 = .ok (.iconst 0, 1) := by decide +kernel
theorem dX7_objectCount_10 : decode cX7_objectCount 10 = .ok (.iaload, 1) := by decide +kernel
theorem dX7_objectCount_11 : decode cX7_objectCount 11 = .ok (.ireturn, 1) := by decide +kernel
theorem dX7_open_0 : decode cX7_open 0 = .ok (.aload_n 0, 1) := by decide +kernel
theorem dX7_open_1 : decode cX7_open 1 = .ok (.iconst 0, 1) := by decide +kernel
theorem dX7_open_2 : decode cX7_open 2 = .ok (.putfield 32, 3) := by decide +kernel
theorem dX7_open_5 : decode cX7_open 5 = .ok (.aload_n 0, 1) := by decide +kernel
theorem dX7_open_6 : decode cX7_open 6 = .ok (.iload_n 1, 1) := by decide +kernel
theorem dX7_open_7 : decode cX7_open 7 = .ok (.iconst 2, 1) := by decide +kernel
theorem dX7_open_8 : decode cX7_open 8 = .ok (.invokevirtual 119, 3) := by decide +kernel
theorem dX7_open_11 : decode cX7_open 11 = .ok (.ifCond .eq 42, 3) := by decide +kernel
theorem dX7_open_14 : decode cX7_open 14 = .ok (.aload_n 0, 1) := by decide +kernel
theorem dX7_open_15 : decode cX7_open 15 = .ok (.iload_n 2, 1) := by decide +kernel
theorem dX7_open_16 : decode cX7_open 16 = .ok (.iconst 1, 1) := by decide +kernel
theorem dX7_open_17 : decode cX7_open 17 = .ok (.invokevirtual 112, 3) := by decide +kernel
theorem dX7_open_20 : decode cX7_open 20 = .ok (.ifCond .eq 33, 3) := by decide +kernel
theorem dX7_open_23 : decode cX7_open 23 = .ok (.aload_n 0, 1) := by decide +kernel
theorem dX7_open_24 : decode cX7_open 24 = .ok (.iload_n 3, 1) := by decide +kernel
theorem dX7_open_25 : decode cX7_open 25 = .ok (.iconst 2, 1) := by decide +kernel
theorem dX7_open_26 : decode cX7_open 26 = .ok (.invokevirtual 112, 3) := by decide +kernel
theorem dX7_open_29 : decode cX7_open 29 = .ok (.ifCond .eq 24, 3) := by decide +kernel
theorem dX7_open_32 : decode cX7_open 32 = .ok (.aload_n 0, 1) := by decide +kernel
theorem dX7_open_33 : decode cX7_open 33 = .ok (.getfield 7, 3) := by decide +kernel
theorem dX7_open_36 : decode cX7_open 36 = .ok (.bipush 11, 2) := by decide +kernel
theorem dX7_open_38 : decode cX7_open 38 = .ok (.iload_n 2, 1) := by decide +kernel
theorem dX7_open_39 : decode cX7_open 39 = .ok (.iadd, 1) := by decide +kernel
theorem dX7_open_40 : decode cX7_open 40 = .ok (.iaload, 1) := by decide +kernel
theorem dX7_open_41 : decode cX7_open 41 = .ok (.aload_n 0, 1) := by decide +kernel
theorem dX7_open_42 : decode cX7_open 42 = .ok (.getfield 7, 3) := by decide +kernel
theorem dX7_open_45 : decode cX7_open 45 = .ok (.bipush 11, 2) := by decide +kernel
theorem dX7_open_47 : decode cX7_open 47 = .ok (.iload_n 3, 1) := by decide +kernel
theorem dX7_open_48 : decode cX7_open 48 = .ok (.iadd, 1) := by decide +kernel
theorem dX7_open_49 : decode cX7_open 49 = .ok (.iaload, 1) := by decide +kernel
theorem dX7_open_50 : decode cX7_open 50 = .ok (.if_icmp .eq 5, 3) := by decide +kernel
theorem dX7_open_53 : decode cX7_open 53 = .ok (.iconst (-1), 1) := by decide +kernel
theorem dX7_open_54 : decode cX7_open 54 = .ok (.ireturn, 1) := by decide +kernel
theorem dX7_open_55 : decode cX7_open 55 = .ok (.aload_n 0, 1) := by decide +kernel
theorem dX7_open_56 : decode cX7_open 56 = .ok (.iload_n 1, 1) := by decide +kernel
theorem dX7_open_57 : decode cX7_open 57 = .ok (.iload_n 2, 1) := by decide +kernel
theorem dX7_open_58 : decode cX7_open 58 = .ok (.invokevirtual 197, 3) := by decide +kernel
theorem dX7_open_61 : decode cX7_open 61 = .ok (.ifCond .eq 29, 3) := by decide +kernel
theorem dX7_open_64 : decode cX7_open 64 = .ok (.aload_n 0, 1) := by decide +kernel
theorem dX7_open_65 : decode cX7_open 65 = .ok (.iload_n 1, 1) := by decide +kernel
theorem dX7_open_66 : decode cX7_open 66 = .ok (.iload_n 3, 1) := by decide +kernel
theorem dX7_open_67 : decode cX7_open 67 = .ok (.invokevirtual 197, 3) := by decide +kernel
theorem dX7_open_70 : decode cX7_open 70 = .ok (.ifCond .eq 20, 3) := by decide +kernel
theorem dX7_open_73 : decode cX7_open 73 = .ok (.aload_n 0, 1) := by decide +kernel
theorem dX7_open_74 : decode cX7_open 74 = .ok (.iload_n 1, 1) := by decide +kernel
theorem dX7_open_75 : decode cX7_open 75 = .ok (.aload_n 0, 1) := by decide +kernel
theorem dX7_open_76 : decode cX7_open 76 = .ok (.getfield 7, 3) := by decide +kernel
theorem dX7_open_79 : decode cX7_open 79 = .ok (.bipush 21, 2) := by decide +kernel
theorem dX7_open_81 : decode cX7_open 81 = .ok (.iload_n 2, 1) := by decide +kernel
theorem dX7_open_82 : decode cX7_open 82 = .ok (.iadd, 1) := by decide +kernel
theorem dX7_open_83 : decode cX7_open 83 = .ok (.iaload, 1) := by decide +kernel
theorem dX7_open_84 : decode cX7_open 84 = .ok (.invokevirtual 200, 3) := by decide +kernel
theorem dX7_open_87 : decode cX7_open 87 = .ok (.goto 5, 3) := by decide +kernel
theorem dX7_open_90 : decode cX7_open 90 = .ok (.bipush (-2), 2) := by decide +kernel
theorem dX7_open_92 : decode cX7_open 92 = .ok (.ireturn, 1) := by decide +kernel
theorem dX7_openedBox_0 : decode cX7_openedBox 0 = .ok (.iconst 0, 1) := by decide +kernel
theorem dX7_openedBox_1 : decode cX7_openedBox 1 = .ok (.istore 4, 2) := by decide +kernel
theorem dX7_openedBox_3 : decode cX7_openedBox 3 = .ok (.iload 4, 2) := by decide +kernel
theorem dX7_openedBox_5 : decode cX7_openedBox 5 = .ok (.aload_n 0, 1) := by decide +kernel
theorem dX7_openedBox_6 : decode cX7_openedBox 6 = .ok (.getfield 7, 3) := by decide +kernel
theorem dX7_openedBox_9 : decode cX7_openedBox 9 = .ok (.iconst 0, 1) := by decide +kernel
theorem dX7_openedBox_10 : decode cX7_openedBox 10 = .ok (.iaload, 1) := by decide +kernel
theorem dX7_openedBox_11 : decode cX7_openedBox 11 = .ok (.if_icmp .ge 77, 3) := by decide +kernel
theorem dX7_openedBox_14 : decode cX7_openedBox 14 = .ok (.aload_n 0, 1) := by decide +kernel
theorem dX7_openedBox_15 : decode cX7_openedBox 15 = .ok (.iload_n 1, 1) := by decide +kernel
theorem dX7_openedBox_16 : decode cX7_openedBox 16 = .ok (.iconst 2, 1) := by decide +kernel
theorem dX7_openedBox_17 : decode cX7_openedBox 17 = .ok (.invokevirtual 119, 3) := by decide +kernel
theorem dX7_openedBox_20 : decode cX7_openedBox 20 = .ok (.ifCond .eq 68, 3) := by decide +kernel
theorem dX7_openedBox_23 : decode cX7_openedBox 23 = .ok (.aload_n 0, 1) := by decide +kernel
theorem dX7_openedBox_24 : decode cX7_openedBox 24 = .ok (.iload 4, 2) := by decide +kernel
theorem dX7_openedBox_26 : decode cX7_openedBox 26 = .ok (.iconst 1, 1) := by decide +kernel
theorem dX7_openedBox_27 : decode cX7_openedBox 27 = .ok (.invokevirtual 112, 3) := by decide +kernel
theorem dX7_openedBox_30 : decode cX7_openedBox 30 = .ok (.ifCond .eq 52, 3) := by decide +kernel
theorem dX7_openedBox_33 : decode cX7_openedBox 33 = .ok (.aload_n 0, 1) := by decide +kernel
theorem dX7_openedBox_34 : decode cX7_openedBox 34 = .ok (.getfield 7, 3) := by decide +kernel
theorem dX7_openedBox_37 : decode cX7_openedBox 37 = .ok (.bipush 21, 2) := by decide +kernel
theorem dX7_openedBox_39 : decode cX7_openedBox 39 = .ok (.iload 4, 2) := by decide +kernel
theorem dX7_openedBox_41 : decode cX7_openedBox 41 = .ok (.iadd, 1) := by decide +kernel
theorem dX7_openedBox_42 : decode cX7_openedBox 42 = .ok (.iaload, 1) := by decide +kernel
theorem dX7_openedBox_43 : decode cX7_openedBox 43 = .ok (.iload_n 2, 1) := by decide +kernel
theorem dX7_openedBox_44 : decode cX7_openedBox 44 = .ok (.if_icmp .ne 38, 3) := by decide +kernel
theorem dX7_openedBox_47 : decode cX7_openedBox 47 = .ok (.aload_n 0, 1) := by decide +kernel
theorem dX7_openedBox_48 : decode cX7_openedBox 48 = .ok (.iload_n 1, 1) := by decide +kernel
theorem dX7_openedBox_49 : decode cX7_openedBox 49 = .ok (.iload 4, 2) := by decide +kernel
theorem dX7_openedBox_51 : decode cX7_openedBox 51 = .ok (.iload_n 3, 1) := by decide +kernel
theorem dX7_openedBox_52 : decode cX7_openedBox 52 = .ok (.invokevirtual 122, 3) := by decide +kernel
theorem dX7_openedBox_55 : decode cX7_openedBox 55 = .ok (.ifCond .eq 27, 3) := by decide +kernel
theorem dX7_openedBox_58 : decode cX7_openedBox 58 = .ok (.aload_n 0, 1) := by decide +kernel
theorem dX7_openedBox_59 : decode cX7_openedBox 59 = .ok (.iload_n 1, 1) := by decide +kernel
theorem dX7_openedBox_60 : decode cX7_openedBox 60 = .ok (.aload_n 0, 1) := by decide +kernel
theorem dX7_openedBox_61 : decode cX7_openedBox 61 = .ok (.getfield 7, 3) := by decide +kernel
theorem dX7_openedBox_64 : decode cX7_openedBox 64 = .ok (.bipush 11, 2) := by decide +kernel
theorem dX7_openedBox_66 : decode cX7_openedBox 66 = .ok (.iload 4, 2) := by decide +kernel
theorem dX7_openedBox_68 : decode cX7_openedBox 68 = .ok (.iadd, 1) := by decide +kernel
theorem dX7_openedBox_69 : decode cX7_openedBox 69 = .ok (.iaload, 1) := by decide +kernel
theorem dX7_openedBox_70 : decode cX7_openedBox 70 = .ok (.iload_n 3, 1) := by decide +kernel
theorem dX7_openedBox_71 : decode cX7_openedBox 71 = .ok (.invokevirtual 125, 3) := by decide +kernel
theorem dX7_openedBox_74 : decode cX7_openedBox 74 = .ok (.bipush (-9), 2) := by decide +kernel
theorem dX7_openedBox_76 : decode cX7_openedBox 76 = .ok (.if_icmp .eq 6, 3) := by decide +kernel
theorem dX7_openedBox_79 : decode cX7_openedBox 79 = .ok (.iload 4, 2) := by decide +kernel
theorem dX7_openedBox_81 : decode cX7_openedBox 81 = .ok (.ireturn, 1) := by decide +kernel
theorem dX7_openedBox_82 : decode cX7_openedBox 82 = .ok (.iinc 4 1, 3) := by decide +kernel
theorem dX7_openedBox_85 : decode cX7_openedBox 85 = .ok (.goto (-82), 3) := by decide +kernel
theorem dX7_openedBox_88 : decode cX7_openedBox 88 = .ok (.bipush (-9), 2) := by decide +kernel
theorem dX7_openedBox_90 : decode cX7_openedBox 90 = .ok (.ireturn, 1) := by decide +kernel
theorem dX7_partner_0 : decode cX7_partner 0 = .ok (.aload_n 0, 1) := by decide +kernel
theorem dX7_partner_1 : decode cX7_partner 1 = .ok (.iconst 0, 1) := by decide +kernel
theorem dX7_partner_2 : decode cX7_partner 2 = .ok (.putfield 32, 3) := by decide +kernel
theorem dX7_partner_5 : decode cX7_partner 5 = .ok (.aload_n 0, 1) := by decide +kernel
theorem dX7_partner_6 : decode cX7_partner 6 = .ok (.iload_n 1, 1) := by decide +kernel
theorem dX7_partner_7 : decode cX7_partner 7 = .ok (.iload_n 2, 1) := by decide +kernel
theorem dX7_partner_8 : decode cX7_partner 8 = .ok (.invokevirtual 166, 3) := by decide +kernel
theorem dX7_partner_11 : decode cX7_partner 11 = .ok (.ifCond .ne 5, 3) := by decide +kernel
theorem dX7_partner_14 : decode cX7_partner 14 = .ok (.iconst (-1), 1) := by decide +kernel
theorem dX7_partner_15 : decode cX7_partner 15 = .ok (.ireturn, 1) := by decide +kernel
theorem dX7_partner_16 : decode cX7_partner 16 = .ok (.aload_n 0, 1) := by decide +kernel
theorem dX7_partner_17 : decode cX7_partner 17 = .ok (.iload_n 1, 1) := by decide +kernel
theorem dX7_partner_18 : decode cX7_partner 18 = .ok (.iload_n 2, 1) := by decide +kernel
theorem dX7_partner_19 : decode cX7_partner 19 = .ok (.invokevirtual 169, 3) := by decide +kernel
theorem dX7_partner_22 : decode cX7_partner 22 = .ok (.istore_n 3, 1) := by decide +kernel
theorem dX7_partner_23 : decode cX7_partner 23 = .ok (.iload_n 3, 1) := by decide +kernel
theorem dX7_partner_24 : decode cX7_partner 24 = .ok (.iconst 1, 1) := by decide +kernel
theorem dX7_partner_25 : decode cX7_partner 25 = .ok (.if_icmp .ge 8, 3) := by decide +kernel
theorem dX7_partner_28 : decode cX7_partner 28 = .ok (.bipush (-9), 2) := by decide +kernel
theorem dX7_partner_30 : decode cX7_partner 30 = .ok (.goto 17, 3) := by decide +kernel
theorem dX7_partner_33 : decode cX7_partner 33 = .ok (.aload_n 0, 1) := by decide +kernel
theorem dX7_partner_34 : decode cX7_partner 34 = .ok (.aload_n 0, 1) := by decide +kernel
theorem dX7_partner_35 : decode cX7_partner 35 = .ok (.iload_n 1, 1) := by decide +kernel
theorem dX7_partner_36 : decode cX7_partner 36 = .ok (.iload_n 2, 1) := by decide +kernel
theorem dX7_partner_37 : decode cX7_partner 37 = .ok (.iload_n 3, 1) := by decide +kernel
theorem dX7_partner_38 : decode cX7_partner 38 = .ok (.invokevirtual 160, 3) := by decide +kernel
theorem dX7_partner_41 : decode cX7_partner 41 = .ok (.iload_n 1, 1) := by decide +kernel
theorem dX7_partner_42 : decode cX7_partner 42 = .ok (.iload_n 2, 1) := by decide +kernel
theorem dX7_partner_43 : decode cX7_partner 43 = .ok (.iload_n 3, 1) := by decide +kernel
theorem dX7_partner_44 : decode cX7_partner 44 = .ok (.invokevirtual 147, 3) := by decide +kernel
theorem dX7_partner_47 : decode cX7_partner 47 = .ok (.ireturn, 1) := by decide +kernel
theorem dX7_partnerBy_0 : decode cX7_partnerBy 0 = .ok (.iload_n 1, 1) := by decide +kernel
theorem dX7_partnerBy_1 : decode cX7_partnerBy 1 = .ok (.iconst 1, 1) := by decide +kernel
theorem dX7_partnerBy_2 : decode cX7_partnerBy 2 = .ok (.if_icmp .ne 14, 3) := by decide +kernel
theorem dX7_partnerBy_5 : decode cX7_partnerBy 5 = .ok (.aload_n 0, 1) := by decide +kernel
theorem dX7_partnerBy_6 : decode cX7_partnerBy 6 = .ok (.iload_n 2, 1) := by decide +kernel
theorem dX7_partnerBy_7 : decode cX7_partnerBy 7 = .ok (.iload_n 3, 1) := by decide +kernel
theorem dX7_partnerBy_8 : decode cX7_partnerBy 8 = .ok (.iload 4, 2) := by decide +kernel
theorem dX7_partnerBy_10 : decode cX7_partnerBy 10 = .ok (.invokevirtual 132, 3) := by decide +kernel
theorem dX7_partnerBy_13 : decode cX7_partnerBy 13 = .ok (.goto 59, 3) := by decide +kernel
theorem dX7_partnerBy_16 : decode cX7_partnerBy 16 = .ok (.iload_n 1, 1) := by decide +kernel
theorem dX7_partnerBy_17 : decode cX7_partnerBy 17 = .ok (.iconst 2, 1) := by decide +kernel
theorem dX7_partnerBy_18 : decode cX7_partnerBy 18 = .ok (.if_icmp .ne 14, 3) := by decide +kernel
theorem dX7_partnerBy_21 : decode cX7_partnerBy 21 = .ok (.aload_n 0, 1) := by decide +kernel
theorem dX7_partnerBy_22 : decode cX7_partnerBy 22 = .ok (.iload_n 2, 1) := by decide +kernel
theorem dX7_partnerBy_23 : decode cX7_partnerBy 23 = .ok (.iload_n 3, 1) := by decide +kernel
theorem dX7_partnerBy_24 : decode cX7_partnerBy 24 = .ok (.iload 4, 2) := by decide +kernel
theorem dX7_partnerBy_26 : decode cX7_partnerBy 26 = .ok (.invokevirtual 135, 3) := by decide +kernel
theorem dX7_partnerBy_29 : decode cX7_partnerBy 29 = .ok (.goto 43, 3) := by decide +kernel
theorem dX7_partnerBy_32 : decode cX7_partnerBy 32 = .ok (.iload_n 1, 1) := by decide +kernel
theorem dX7_partnerBy_33 : decode cX7_partnerBy 33 = .ok (.iconst 3, 1) := by decide +kernel
theorem dX7_partnerBy_34 : decode cX7_partnerBy 34 = .ok (.if_icmp .ne 14, 3) := by decide +kernel
theorem dX7_partnerBy_37 : decode cX7_partnerBy 37 = .ok (.aload_n 0, 1) := by decide +kernel
theorem dX7_partnerBy_38 : decode cX7_partnerBy 38 = .ok (.iload_n 2, 1) := by decide +kernel
theorem dX7_partnerBy_39 : decode cX7_partnerBy 39 = .ok (.iload_n 3, 1) := by decide +kernel
theorem dX7_partnerBy_40 : decode cX7_partnerBy 40 = .ok (.iload 4, 2) := by decide +kernel
theorem dX7_partnerBy_42 : decode cX7_partnerBy 42 = .ok (.invokevirtual 138, 3) := by decide +kernel
theorem dX7_partnerBy_45 : decode cX7_partnerBy 45 = .ok (.goto 27, 3) := by decide +kernel
theorem dX7_partnerBy_48 : decode cX7_partnerBy 48 = .ok (.iload_n 1, 1) := by decide +kernel
theorem dX7_partnerBy_49 : decode cX7_partnerBy 49 = .ok (.iconst 4, 1) := by decide +kernel
theorem dX7_partnerBy_50 : decode cX7_partnerBy 50 = .ok (.if_icmp .ne 14, 3) := by decide +kernel
theorem dX7_partnerBy_53 : decode cX7_partnerBy 53 = .ok (.aload_n 0, 1) := by decide +kernel
theorem dX7_partnerBy_54 : decode cX7_partnerBy 54 = .ok (.iload_n 2, 1) := by decide +kernel
theorem dX7_partnerBy_55 : decode cX7_partnerBy 55 = .ok (.iload_n 3, 1) := by decide +kernel
theorem dX7_partnerBy_56 : decode cX7_partnerBy 56 = .ok (.iload 4, 2) := by decide +kernel
theorem dX7_partnerBy_58 : decode cX7_partnerBy 58 = .ok (.invokevirtual 141, 3) := by decide +kernel
theorem dX7_partnerBy_61 : decode cX7_partnerBy 61 = .ok (.goto 11, 3) := by decide +kernel
theorem dX7_partnerBy_64 : decode cX7_partnerBy 64 = .ok (.aload_n 0, 1) := by decide +kernel
theorem dX7_partnerBy_65 : decode cX7_partnerBy 65 = .ok (.iload_n 2, 1) := by decide +kernel
theorem dX7_partnerBy_66 : decode cX7_partnerBy 66 = .ok (.iload_n 3, 1) := by decide +kernel
theorem dX7_partnerBy_67 : decode cX7_partnerBy 67 = .ok (.iload 4, 2) := by decide +kernel
theorem dX7_partnerBy_69 : decode cX7_partnerBy 69 = .ok (.invokevirtual 144, 3) := by decide +kernel
theorem dX7_partnerBy_72 : decode cX7_partnerBy 72 = .ok (.ireturn, 1) := by decide +kernel
theorem dX7_permit_0 : decode cX7_permit 0 = .ok (.aload_n 0, 1) := by decide +kernel
theorem dX7_permit_1 : decode cX7_permit 1 = .ok (.iconst 0, 1) := by decide +kernel
theorem dX7_permit_2 : decode cX7_permit 2 = .ok (.putfield 32, 3) := by decide +kernel
theorem dX7_permit_5 : decode cX7_permit 5 = .ok (.aload_n 0, 1) := by decide +kernel
theorem dX7_permit_6 : decode cX7_permit 6 = .ok (.iload_n 1, 1) := by decide +kernel
theorem dX7_permit_7 : decode cX7_permit 7 = .ok (.iload_n 2, 1) := by decide +kernel
theorem dX7_permit_8 : decode cX7_permit 8 = .ok (.invokevirtual 166, 3) := by decide +kernel
theorem dX7_permit_11 : decode cX7_permit 11 = .ok (.ifCond .ne 5, 3) := by decide +kernel
theorem dX7_permit_14 : decode cX7_permit 14 = .ok (.iconst (-1), 1) := by decide +kernel
theorem dX7_permit_15 : decode cX7_permit 15 = .ok (.ireturn, 1) := by decide +kernel
theorem dX7_permit_16 : decode cX7_permit 16 = .ok (.aload_n 0, 1) := by decide +kernel
theorem dX7_permit_17 : decode cX7_permit 17 = .ok (.iload_n 1, 1) := by decide +kernel
theorem dX7_permit_18 : decode cX7_permit 18 = .ok (.iload_n 2, 1) := by decide +kernel
theorem dX7_permit_19 : decode cX7_permit 19 = .ok (.invokevirtual 188, 3) := by decide +kernel
theorem dX7_permit_22 : decode cX7_permit 22 = .ok (.istore_n 3, 1) := by decide +kernel
theorem dX7_permit_23 : decode cX7_permit 23 = .ok (.iload_n 3, 1) := by decide +kernel
theorem dX7_permit_24 : decode cX7_permit 24 = .ok (.bipush (-9), 2) := by decide +kernel
theorem dX7_permit_26 : decode cX7_permit 26 = .ok (.if_icmp .ne 6, 3) := by decide +kernel
theorem dX7_permit_29 : decode cX7_permit 29 = .ok (.bipush (-2), 2) := by decide +kernel
theorem dX7_permit_31 : decode cX7_permit 31 = .ok (.ireturn, 1) := by decide +kernel
theorem dX7_permit_32 : decode cX7_permit 32 = .ok (.aload_n 0, 1) := by decide +kernel
theorem dX7_permit_33 : decode cX7_permit 33 = .ok (.invokevirtual 99, 3) := by decide +kernel
theorem dX7_permit_36 : decode cX7_permit 36 = .ok (.bipush 63, 2) := by decide +kernel
theorem dX7_permit_38 : decode cX7_permit 38 = .ok (.iconst 2, 1) := by decide +kernel
theorem dX7_permit_39 : decode cX7_permit 39 = .ok (.iload_n 3, 1) := by decide +kernel
theorem dX7_permit_40 : decode cX7_permit 40 = .ok (.imul, 1) := by decide +kernel
theorem dX7_permit_41 : decode cX7_permit 41 = .ok (.iadd, 1) := by decide +kernel
theorem dX7_permit_42 : decode cX7_permit 42 = .ok (.istore 4, 2) := by decide +kernel
theorem dX7_permit_44 : decode cX7_permit 44 = .ok (.iload 4, 2) := by decide +kernel
theorem dX7_permit_46 : decode cX7_permit 46 = .ok (.iconst 2, 1) := by decide +kernel
theorem dX7_permit_47 : decode cX7_permit 47 = .ok (.iadd, 1) := by decide +kernel
theorem dX7_permit_48 : decode cX7_permit 48 = .ok (.bipush 71, 2) := by decide +kernel
theorem dX7_permit_50 : decode cX7_permit 50 = .ok (.if_icmp .ge 25, 3) := by decide +kernel
theorem dX7_permit_53 : decode cX7_permit 53 = .ok (.aload_n 0, 1) := by decide +kernel
theorem dX7_permit_54 : decode cX7_permit 54 = .ok (.getfield 7, 3) := by decide +kernel
theorem dX7_permit_57 : decode cX7_permit 57 = .ok (.iload 4, 2) := by decide +kernel
theorem dX7_permit_59 : decode cX7_permit 59 = .ok (.aload_n 0, 1) := by decide +kernel
theorem dX7_permit_60 : decode cX7_permit 60 = .ok (.getfield 7, 3) := by decide +kernel
theorem dX7_permit_63 : decode cX7_permit 63 = .ok (.iload 4, 2) := by decide +kernel
theorem dX7_permit_65 : decode cX7_permit 65 = .ok (.iconst 2, 1) := by decide +kernel
theorem dX7_permit_66 : decode cX7_permit 66 = .ok (.iadd, 1) := by decide +kernel
theorem dX7_permit_67 : decode cX7_permit 67 = .ok (.iaload, 1) := by decide +kernel
theorem dX7_permit_68 : decode cX7_permit 68 = .ok (.iastore, 1) := by decide +kernel
theorem dX7_permit_69 : decode cX7_permit 69 = .ok (.iinc 4 1, 3) := by decide +kernel
theorem dX7_permit_72 : decode cX7_permit 72 = .ok (.goto (-28), 3) := by decide +kernel
theorem dX7_permit_75 : decode cX7_permit 75 = .ok (.aload_n 0, 1) := by decide +kernel
theorem dX7_permit_76 : decode cX7_permit 76 = .ok (.getfield 7, 3) := by decide +kernel
theorem dX7_permit_79 : decode cX7_permit 79 = .ok (.bipush 62, 2) := by decide +kernel
theorem dX7_permit_81 : decode cX7_permit 81 = .ok (.dup2, 1) := by decide +kernel
theorem dX7_permit_82 : decode cX7_permit 82 = .ok (.iaload, 1) := by decide +kernel
theorem dX7_permit_83 : decode cX7_permit 83 = .ok (.iconst 1, 1) := by decide +kernel
theorem dX7_permit_84 : decode cX7_permit 84 = .ok (.isub, 1) := by decide +kernel
theorem dX7_permit_85 : decode cX7_permit 85 = .ok (.iastore, 1) := by decide +kernel
theorem dX7_permit_86 : decode cX7_permit 86 = .ok (.aload_n 0, 1) := by decide +kernel
theorem dX7_permit_87 : decode cX7_permit 87 = .ok (.getfield 7, 3) := by decide +kernel
theorem dX7_permit_90 : decode cX7_permit 90 = .ok (.bipush 62, 2) := by decide +kernel
theorem dX7_permit_92 : decode cX7_permit 92 = .ok (.iaload, 1) := by decide +kernel
theorem dX7_permit_93 : decode cX7_permit 93 = .ok (.ireturn, 1) := by decide +kernel
theorem dX7_readHold_0 : decode cX7_readHold 0 = .ok (.aload_n 0, 1) := by decide +kernel
theorem dX7_readHold_1 : decode cX7_readHold 1 = .ok (.aload_n 0, 1) := by decide +kernel
theorem dX7_readHold_2 : decode cX7_readHold 2 = .ok (.getfield 53, 3) := by decide +kernel
theorem dX7_readHold_5 : decode cX7_readHold 5 = .ok (.iconst 2, 1) := by decide +kernel
theorem dX7_readHold_6 : decode cX7_readHold 6 = .ok (.if_icmp .ne 21, 3) := by decide +kernel
theorem dX7_readHold_9 : decode cX7_readHold 9 = .ok (.aload_n 0, 1) := by decide +kernel
theorem dX7_readHold_10 : decode cX7_readHold 10 = .ok (.getfield 13, 3) := by decide +kernel
theorem dX7_readHold_13 : decode cX7_readHold 13 = .ok (.aload_n 0, 1) := by decide +kernel
theorem dX7_readHold_14 : decode cX7_readHold 14 = .ok (.getfield 64, 3) := by decide +kernel
theorem dX7_readHold_17 : decode cX7_readHold 17 = .ok (.invokestatic 84, 3) := by decide +kernel
theorem dX7_readHold_20 : decode cX7_readHold 20 = .ok (.ifCond .eq 7, 3) := by decide +kernel
theorem dX7_readHold_23 : decode cX7_readHold 23 = .ok (.iconst 1, 1) := by decide +kernel
theorem dX7_readHold_24 : decode cX7_readHold 24 = .ok (.goto 4, 3) := by decide +kernel
theorem dX7_readHold_27 : decode cX7_readHold 27 = .ok (.iconst 0, 1) := by decide +kernel
theorem dX7_readHold_28 : decode cX7_readHold 28 = .ok (.invokevirtual 77, 3) := by decide +kernel
theorem dX7_readHold_31 : decode cX7_readHold 31 = .ok (.istore_n 1, 1) := by decide +kernel
theorem dX7_readHold_32 : decode cX7_readHold 32 = .ok (.aload_n 0, 1) := by decide +kernel
theorem dX7_readHold_33 : decode cX7_readHold 33 = .ok (.aload_n 0, 1) := by decide +kernel
theorem dX7_readHold_34 : decode cX7_readHold 34 = .ok (.getfield 53, 3) := by decide +kernel
theorem dX7_readHold_37 : decode cX7_readHold 37 = .ok (.iconst 2, 1) := by decide +kernel
theorem dX7_readHold_38 : decode cX7_readHold 38 = .ok (.if_icmp .ne 44, 3) := by decide +kernel
theorem dX7_readHold_41 : decode cX7_readHold 41 = .ok (.aload_n 0, 1) := by decide +kernel
theorem dX7_readHold_42 : decode cX7_readHold 42 = .ok (.getfield 64, 3) := by decide +kernel
theorem dX7_readHold_45 : decode cX7_readHold 45 = .ok (.aload_n 0, 1) := by decide +kernel
theorem dX7_readHold_46 : decode cX7_readHold 46 = .ok (.getfield 13, 3) := by decide +kernel
theorem dX7_readHold_49 : decode cX7_readHold 49 = .ok (.iconst 0, 1) := by decide +kernel
theorem dX7_readHold_50 : decode cX7_readHold 50 = .ok (.iaload, 1) := by decide +kernel
theorem dX7_readHold_51 : decode cX7_readHold 51 = .ok (.if_icmp .ge 31, 3) := by decide +kernel
theorem dX7_readHold_54 : decode cX7_readHold 54 = .ok (.aload_n 0, 1) := by decide +kernel
theorem dX7_readHold_55 : decode cX7_readHold 55 = .ok (.invokevirtual 70, 3) := by decide +kernel
theorem dX7_readHold_58 : decode cX7_readHold 58 = .ok (.ifCond .eq 20, 3) := by decide +kernel
theorem dX7_readHold_61 : decode cX7_readHold 61 = .ok (.aload_n 0, 1) := by decide +kernel
theorem dX7_readHold_62 : decode cX7_readHold 62 = .ok (.getfield 13, 3) := by decide +kernel
theorem dX7_readHold_65 : decode cX7_readHold 65 = .ok (.iload_n 1, 1) := by decide +kernel
theorem dX7_readHold_66 : decode cX7_readHold 66 = .ok (.aload_n 0, 1) := by decide +kernel
theorem dX7_readHold_67 : decode cX7_readHold 67 = .ok (.getfield 64, 3) := by decide +kernel
theorem dX7_readHold_70 : decode cX7_readHold 70 = .ok (.invokestatic 88, 3) := by decide +kernel
theorem dX7_readHold_73 : decode cX7_readHold 73 = .ok (.bipush (-9), 2) := by decide +kernel
theorem dX7_readHold_75 : decode cX7_readHold 75 = .ok (.if_icmp .ne 7, 3) := by decide +kernel
theorem dX7_readHold_78 : decode cX7_readHold 78 = .ok (.iconst 1, 1) := by decide +kernel
theorem dX7_readHold_79 : decode cX7_readHold 79 = .ok (.goto 4, 3) := by decide +kernel
theorem dX7_readHold_82 : decode cX7_readHold 82 = .ok (.iconst 0, 1) := by decide +kernel
theorem dX7_readHold_83 : decode cX7_readHold 83 = .ok (.invokevirtual 77, 3) := by decide +kernel
theorem dX7_readHold_86 : decode cX7_readHold 86 = .ok (.istore_n 2, 1) := by decide +kernel
theorem dX7_readHold_87 : decode cX7_readHold 87 = .ok (.aload_n 0, 1) := by decide +kernel
theorem dX7_readHold_88 : decode cX7_readHold 88 = .ok (.invokevirtual 70, 3) := by decide +kernel
theorem dX7_readHold_91 : decode cX7_readHold 91 = .ok (.ifCond .eq 52, 3) := by decide +kernel
theorem dX7_readHold_94 : decode cX7_readHold 94 = .ok (.aload_n 0, 1) := by decide +kernel
theorem dX7_readHold_95 : decode cX7_readHold 95 = .ok (.getfield 13, 3) := by decide +kernel
theorem dX7_readHold_98 : decode cX7_readHold 98 = .ok (.bipush 42, 2) := by decide +kernel
theorem dX7_readHold_100 : decode cX7_readHold 100 = .ok (.iconst 2, 1) := by decide +kernel
theorem dX7_readHold_101 : decode cX7_readHold 101 = .ok (.aload_n 0, 1) := by decide +kernel
theorem dX7_readHold_102 : decode cX7_readHold 102 = .ok (.getfield 13, 3) := by decide +kernel
theorem dX7_readHold_105 : decode cX7_readHold 105 = .ok (.bipush 41, 2) := by decide +kernel
theorem dX7_readHold_107 : decode cX7_readHold 107 = .ok (.iaload, 1) := by decide +kernel
theorem dX7_readHold_108 : decode cX7_readHold 108 = .ok (.imul, 1) := by decide +kernel
theorem dX7_readHold_109 : decode cX7_readHold 109 = .ok (.iadd, 1) := by decide +kernel
theorem dX7_readHold_110 : decode cX7_readHold 110 = .ok (.iload_n 1, 1) := by decide +kernel
theorem dX7_readHold_111 : decode cX7_readHold 111 = .ok (.iastore, 1) := by decide +kernel
theorem dX7_readHold_112 : decode cX7_readHold 112 = .ok (.aload_n 0, 1) := by decide +kernel
theorem dX7_readHold_113 : decode cX7_readHold 113 = .ok (.getfield 13, 3) := by decide +kernel
theorem dX7_readHold_116 : decode cX7_readHold 116 = .ok (.bipush 42, 2) := by decide +kernel
theorem dX7_readHold_118 : decode cX7_readHold 118 = .ok (.iconst 2, 1) := by decide +kernel
theorem dX7_readHold_119 : decode cX7_readHold 119 = .ok (.aload_n 0, 1) := by decide +kernel
theorem dX7_readHold_120 : decode cX7_readHold 120 = .ok (.getfield 13, 3) := by decide +kernel
theorem dX7_readHold_123 : decode cX7_readHold 123 = .ok (.bipush 41, 2) := by decide +kernel
theorem dX7_readHold_125 : decode cX7_readHold 125 = .ok (.iaload, 1) := by decide +kernel
theorem dX7_readHold_126 : decode cX7_readHold 126 = .ok (.imul, 1) := by decide +kernel
theorem dX7_readHold_127 : decode cX7_readHold 127 = .ok (.iadd, 1) := by decide +kernel
theorem dX7_readHold_128 : decode cX7_readHold 128 = .ok (.iconst 1, 1) := by decide +kernel
theorem dX7_readHold_129 : decode cX7_readHold 129 = .ok (.iadd, 1) := by decide +kernel
theorem dX7_readHold_130 : decode cX7_readHold 130 = .ok (.iload_n 2, 1) := by decide +kernel
theorem dX7_readHold_131 : decode cX7_readHold 131 = .ok (.iastore, 1) := by decide +kernel
theorem dX7_readHold_132 : decode cX7_readHold 132 = .ok (.aload_n 0, 1) := by decide +kernel
theorem dX7_readHold_133 : decode cX7_readHold 133 = .ok (.getfield 13, 3) := by decide +kernel
theorem dX7_readHold_136 : decode cX7_readHold 136 = .ok (.bipush 41, 2) := by decide +kernel
theorem dX7_readHold_138 : decode cX7_readHold 138 = .ok (.dup2, 1) := by decide +kernel
theorem dX7_readHold_139 : decode cX7_readHold 139 = .ok (.iaload, 1) := by decide +kernel
theorem dX7_readHold_140 : decode cX7_readHold 140 = .ok (.iconst 1, 1) := by decide +kernel
theorem dX7_readHold_141 : decode cX7_readHold 141 = .ok (.iadd, 1) := by decide +kernel
theorem dX7_readHold_142 : decode cX7_readHold 142 = .ok (.iastore, 1) := by decide +kernel
theorem dX7_readHold_143 : decode cX7_readHold 143 = .ok (.return_, 1) := by decide +kernel
theorem dX7_readObject_0 : decode cX7_readObject 0 = .ok (.aload_n 0, 1) := by decide +kernel
theorem dX7_readObject_1 : decode cX7_readObject 1 = .ok (.getfield 13, 3) := by decide +kernel
theorem dX7_readObject_4 : decode cX7_readObject 4 = .ok (.iconst 0, 1) := by decide +kernel
theorem dX7_readObject_5 : decode cX7_readObject 5 = .ok (.iaload, 1) := by decide +kernel
theorem dX7_readObject_6 : decode cX7_readObject 6 = .ok (.istore_n 2, 1) := by decide +kernel
theorem dX7_readObject_7 : decode cX7_readObject 7 = .ok (.iconst 0, 1) := by decide +kernel
theorem dX7_readObject_8 : decode cX7_readObject 8 = .ok (.istore 4, 2) := by decide +kernel
theorem dX7_readObject_10 : decode cX7_readObject 10 = .ok (.iload_n 1, 1) := by decide +kernel
theorem dX7_readObject_11 : decode cX7_readObject 11 = .ok (.iconst 3, 1) := by decide +kernel
theorem dX7_readObject_12 : decode cX7_readObject 12 = .ok (.if_icmp .ne 66, 3) := by decide +kernel
theorem dX7_readObject_15 : decode cX7_readObject 15 = .ok (.aload_n 0, 1) := by decide +kernel
theorem dX7_readObject_16 : decode cX7_readObject 16 = .ok (.aload_n 0, 1) := by decide +kernel
theorem dX7_readObject_17 : decode cX7_readObject 17 = .ok (.getfield 53, 3) := by decide +kernel
theorem dX7_readObject_20 : decode cX7_readObject 20 = .ok (.iconst 2, 1) := by decide +kernel
theorem dX7_readObject_21 : decode cX7_readObject 21 = .ok (.if_icmp .ne 49, 3) := by decide +kernel
theorem dX7_readObject_24 : decode cX7_readObject 24 = .ok (.aload_n 0, 1) := by decide +kernel
theorem dX7_readObject_25 : decode cX7_readObject 25 = .ok (.getfield 64, 3) := by decide +kernel
theorem dX7_readObject_28 : decode cX7_readObject 28 = .ok (.iload_n 2, 1) := by decide +kernel
theorem dX7_readObject_29 : decode cX7_readObject 29 = .ok (.if_icmp .ge 41, 3) := by decide +kernel
theorem dX7_readObject_32 : decode cX7_readObject 32 = .ok (.aload_n 0, 1) := by decide +kernel
theorem dX7_readObject_33 : decode cX7_readObject 33 = .ok (.getfield 13, 3) := by decide +kernel
theorem dX7_readObject_36 : decode cX7_readObject 36 = .ok (.iconst 1, 1) := by decide +kernel
theorem dX7_readObject_37 : decode cX7_readObject 37 = .ok (.aload_n 0, 1) := by decide +kernel
theorem dX7_readObject_38 : decode cX7_readObject 38 = .ok (.getfield 53, 3) := by decide +kernel
theorem dX7_readObject_41 : decode cX7_readObject 41 = .ok (.iconst 2, 1) := by decide +kernel
theorem dX7_readObject_42 : decode cX7_readObject 42 = .ok (.if_icmp .ne 18, 3) := by decide +kernel
theorem dX7_readObject_45 : decode cX7_readObject 45 = .ok (.aload_n 0, 1) := by decide +kernel
theorem dX7_readObject_46 : decode cX7_readObject 46 = .ok (.getfield 64, 3) := by decide +kernel
theorem dX7_readObject_49 : decode cX7_readObject 49 = .ok (.iload_n 2, 1) := by decide +kernel
theorem dX7_readObject_50 : decode cX7_readObject 50 = .ok (.if_icmp .ge 10, 3) := by decide +kernel
theorem dX7_readObject_53 : decode cX7_readObject 53 = .ok (.aload_n 0, 1) := by decide +kernel
theorem dX7_readObject_54 : decode cX7_readObject 54 = .ok (.getfield 64, 3) := by decide +kernel
theorem dX7_readObject_57 : decode cX7_readObject 57 = .ok (.goto 4, 3) := by decide +kernel
theorem dX7_readObject_60 : decode cX7_readObject 60 = .ok (.iconst 0, 1) := by decide +kernel
theorem dX7_readObject_61 : decode cX7_readObject 61 = .ok (.iadd, 1) := by decide +kernel
theorem dX7_readObject_62 : decode cX7_readObject 62 = .ok (.iaload, 1) := by decide +kernel
theorem dX7_readObject_63 : decode cX7_readObject 63 = .ok (.ifCond .ne 7, 3) := by decide +kernel
theorem dX7_readObject_66 : decode cX7_readObject 66 = .ok (.iconst 1, 1) := by decide +kernel
theorem dX7_readObject_67 : decode cX7_readObject 67 = .ok (.goto 4, 3) := by decide +kernel
theorem dX7_readObject_70 : decode cX7_readObject 70 = .ok (.iconst 0, 1) := by decide +kernel
theorem dX7_readObject_71 : decode cX7_readObject 71 = .ok (.invokevirtual 77, 3) := by decide +kernel
theorem dX7_readObject_74 : decode cX7_readObject 74 = .ok (.istore_n 3, 1) := by decide +kernel
theorem dX7_readObject_75 : decode cX7_readObject 75 = .ok (.goto 18, 3) := by decide +kernel
theorem dX7_readObject_78 : decode cX7_readObject 78 = .ok (.aload_n 0, 1) := by decide +kernel
theorem dX7_readObject_79 : decode cX7_readObject 79 = .ok (.iload_n 1, 1) := by decide +kernel
theorem dX7_readObject_80 : decode cX7_readObject 80 = .ok (.ifCond .ne 8, 3) := by decide +kernel
theorem dX7_readObject_83 : decode cX7_readObject 83 = .ok (.bipush 15, 2) := by decide +kernel
theorem dX7_readObject_85 : decode cX7_readObject 85 = .ok (.goto 4, 3) := by decide +kernel
theorem dX7_readObject_88 : decode cX7_readObject 88 = .ok (.iconst 3, 1) := by decide +kernel
theorem dX7_readObject_89 : decode cX7_readObject 89 = .ok (.invokevirtual 81, 3) := by decide +kernel
theorem dX7_readObject_92 : decode cX7_readObject 92 = .ok (.istore_n 3, 1) := by decide +kernel
theorem dX7_readObject_93 : decode cX7_readObject 93 = .ok (.iload_n 1, 1) := by decide +kernel
theorem dX7_readObject_94 : decode cX7_readObject 94 = .ok (.iconst 1, 1) := by decide +kernel
theorem dX7_readObject_95 : decode cX7_readObject 95 = .ok (.if_icmp .ne 12, 3) := by decide +kernel
theorem dX7_readObject_98 : decode cX7_readObject 98 = .ok (.aload_n 0, 1) := by decide +kernel
theorem dX7_readObject_99 : decode cX7_readObject 99 = .ok (.iload_n 2, 1) := by decide +kernel
theorem dX7_readObject_100 : decode cX7_readObject 100 = .ok (.iconst 1, 1) := by decide +kernel
theorem dX7_readObject_101 : decode cX7_readObject 101 = .ok (.isub, 1) := by decide +kernel
theorem dX7_readObject_102 : decode cX7_readObject 102 = .ok (.invokevirtual 81, 3) := by decide +kernel
theorem dX7_readObject_105 : decode cX7_readObject 105 = .ok (.istore 4, 2) := by decide +kernel
theorem dX7_readObject_107 : decode cX7_readObject 107 = .ok (.aload_n 0, 1) := by decide +kernel
theorem dX7_readObject_108 : decode cX7_readObject 108 = .ok (.iconst 5, 1) := by decide +kernel
theorem dX7_readObject_109 : decode cX7_readObject 109 = .ok (.invokevirtual 81, 3) := by decide +kernel
theorem dX7_readObject_112 : decode cX7_readObject 112 = .ok (.istore 5, 2) := by decide +kernel
theorem dX7_readObject_114 : decode cX7_readObject 114 = .ok (.aload_n 0, 1) := by decide +kernel
theorem dX7_readObject_115 : decode cX7_readObject 115 = .ok (.invokevirtual 70, 3) := by decide +kernel
theorem dX7_readObject_118 : decode cX7_readObject 118 = .ok (.ifCond .eq 54, 3) := by decide +kernel
theorem dX7_readObject_121 : decode cX7_readObject 121 = .ok (.aload_n 0, 1) := by decide +kernel
theorem dX7_readObject_122 : decode cX7_readObject 122 = .ok (.getfield 13, 3) := by decide +kernel
theorem dX7_readObject_125 : decode cX7_readObject 125 = .ok (.iconst 1, 1) := by decide +kernel
theorem dX7_readObject_126 : decode cX7_readObject 126 = .ok (.iload_n 2, 1) := by decide +kernel
theorem dX7_readObject_127 : decode cX7_readObject 127 = .ok (.iadd, 1) := by decide +kernel
theorem dX7_readObject_128 : decode cX7_readObject 128 = .ok (.iload_n 1, 1) := by decide +kernel
theorem dX7_readObject_129 : decode cX7_readObject 129 = .ok (.iastore, 1) := by decide +kernel
theorem dX7_readObject_130 : decode cX7_readObject 130 = .ok (.aload_n 0, 1) := by decide +kernel
theorem dX7_readObject_131 : decode cX7_readObject 131 = .ok (.getfield 13, 3) := by decide +kernel
theorem dX7_readObject_134 : decode cX7_readObject 134 = .ok (.bipush 11, 2) := by decide +kernel
theorem dX7_readObject_136 : decode cX7_readObject 136 = .ok (.iload_n 2, 1) := by decide +kernel
theorem dX7_readObject_137 : decode cX7_readObject 137 = .ok (.iadd, 1) := by decide +kernel
theorem dX7_readObject_138 : decode cX7_readObject 138 = .ok (.iload_n 3, 1) := by decide +kernel
theorem dX7_readObject_139 : decode cX7_readObject 139 = .ok (.iastore, 1) := by decide +kernel
theorem dX7_readObject_140 : decode cX7_readObject 140 = .ok (.aload_n 0, 1) := by decide +kernel
theorem dX7_readObject_141 : decode cX7_readObject 141 = .ok (.getfield 13, 3) := by decide +kernel
theorem dX7_readObject_144 : decode cX7_readObject 144 = .ok (.bipush 21, 2) := by decide +kernel
theorem dX7_readObject_146 : decode cX7_readObject 146 = .ok (.iload_n 2, 1) := by decide +kernel
theorem dX7_readObject_147 : decode cX7_readObject 147 = .ok (.iadd, 1) := by decide +kernel
theorem dX7_readObject_148 : decode cX7_readObject 148 = .ok (.iload 4, 2) := by decide +kernel
theorem dX7_readObject_150 : decode cX7_readObject 150 = .ok (.iastore, 1) := by decide +kernel
theorem dX7_readObject_151 : decode cX7_readObject 151 = .ok (.aload_n 0, 1) := by decide +kernel
theorem dX7_readObject_152 : decode cX7_readObject 152 = .ok (.getfield 13, 3) := by decide +kernel
theorem dX7_readObject_155 : decode cX7_readObject 155 = .ok (.bipush 31, 2) := by decide +kernel
theorem dX7_readObject_157 : decode cX7_readObject 157 = .ok (.iload_n 2, 1) := by decide +kernel
theorem dX7_readObject_158 : decode cX7_readObject 158 = .ok (.iadd, 1) := by decide +kernel
theorem dX7_readObject_159 : decode cX7_readObject 159 = .ok (.iload 5, 2) := by decide +kernel
theorem dX7_readObject_161 : decode cX7_readObject 161 = .ok (.iastore, 1) := by decide +kernel
theorem dX7_readObject_162 : decode cX7_readObject 162 = .ok (.aload_n 0, 1) := by decide +kernel
theorem dX7_readObject_163 : decode cX7_readObject 163 = .ok (.getfield 13, 3) := by decide +kernel
theorem dX7_readObject_166 : decode cX7_readObject 166 = .ok (.iconst 0, 1) := by decide +kernel
theorem dX7_readObject_167 : decode cX7_readObject 167 = .ok (.dup2, 1) := by decide +kernel
theorem dX7_readObject_168 : decode cX7_readObject 168 = .ok (.iaload, 1) := by decide +kernel
theorem dX7_readObject_169 : decode cX7_readObject 169 = .ok (.iconst 1, 1) := by decide +kernel
theorem dX7_readObject_170 : decode cX7_readObject 170 = .ok (.iadd, 1) := by decide +kernel
theorem dX7_readObject_171 : decode cX7_readObject 171 = .ok (.iastore, 1) := by decide +kernel
theorem dX7_readObject_172 : decode cX7_readObject 172 = .ok (.return_, 1) := by decide +kernel
theorem dX7_referenceCount_0 : decode cX7_referenceCount 0 = .ok (.aload_n 0, 1) := by decide +kernel
theorem dX7_referenceCount_1 : decode cX7_referenceCount 1 = .ok (.iconst 0, 1) := by decide +kernel
theorem dX7_referenceCount_2 : decode cX7_referenceCount 2 = .ok (.putfield 32, 3) := by decide +kernel
theorem dX7_referenceCount_5 : decode cX7_referenceCount 5 = .ok (.aload_n 0, 1) := by decide +kernel
theorem dX7_referenceCount_6 : decode cX7_referenceCount 6 = .ok (.getfield 7, 3) := by decide +kernel
theorem dX7_referenceCount_9 : decode cX7_referenceCount 9 = .ok (.bipush 41, 2) := by decide +kernel
theorem dX7_referenceCount_11 : decode cX7_referenceCount 11 = .ok (.iaload, 1) := by decide +kernel
theorem dX7_referenceCount_12 : decode cX7_referenceCount 12 = .ok (.ireturn, 1) := by decide +kernel
theorem dX7_removeReference_0 : decode cX7_removeReference 0 = .ok (.aload_n 0, 1) := by decide +kernel
theorem dX7_removeReference_1 : decode cX7_removeReference 1 = .ok (.iconst 0, 1) := by decide +kernel
theorem dX7_removeReference_2 : decode cX7_removeReference 2 = .ok (.putfield 32, 3) := by decide +kernel
theorem dX7_removeReference_5 : decode cX7_removeReference 5 = .ok (.iload_n 1, 1) := by decide +kernel
theorem dX7_removeReference_6 : decode cX7_removeReference 6 = .ok (.iconst 0, 1) := by decide +kernel
theorem dX7_removeReference_7 : decode cX7_removeReference 7 = .ok (.aload_n 0, 1) := by decide +kernel
theorem dX7_removeReference_8 : decode cX7_removeReference 8 = .ok (.getfield 7, 3) := by decide +kernel
theorem dX7_removeReference_11 : decode cX7_removeReference 11 = .ok (.bipush 41, 2) := by decide +kernel
theorem dX7_removeReference_13 : decode cX7_removeReference 13 = .ok (.iaload, 1) := by decide +kernel
theorem dX7_removeReference_14 : decode cX7_removeReference 14 = .ok (.iconst 1, 1) := by decide +kernel
theorem dX7_removeReference_15 : decode cX7_removeReference 15 = .ok (.isub, 1) := by decide +kernel
theorem dX7_removeReference_16 : decode cX7_removeReference 16 = .ok (.invokestatic 56, 3) := by decide +kernel
theorem dX7_removeReference_19 : decode cX7_removeReference 19 = .ok (.ifCond .ne 5, 3) := by decide +kernel
theorem dX7_removeReference_22 : decode cX7_removeReference 22 = .ok (.iconst (-1), 1) := by decide +kernel
theorem dX7_removeReference_23 : decode cX7_removeReference 23 = .ok (.ireturn, 1) := by decide +kernel
theorem dX7_removeReference_24 : decode cX7_removeReference 24 = .ok (.aload_n 0, 1) := by decide +kernel
theorem dX7_removeReference_25 : decode cX7_removeReference 25 = .ok (.invokevirtual 99, 3) := by decide +kernel
theorem dX7_removeReference_28 : decode cX7_removeReference 28 = .ok (.bipush 42, 2) := by decide +kernel
theorem dX7_removeReference_30 : decode cX7_removeReference 30 = .ok (.iconst 2, 1) := by decide +kernel
theorem dX7_removeReference_31 : decode cX7_removeReference 31 = .ok (.iload_n 1, 1) := by decide +kernel
theorem dX7_removeReference_32 : decode cX7_removeReference 32 = .ok (.imul, 1) := by decide +kernel
theorem dX7_removeReference_33 : decode cX7_removeReference 33 = .ok (.iadd, 1) := by decide +kernel
theorem dX7_removeReference_34 : decode cX7_removeReference 34 = .ok (.istore_n 2, 1) := by decide +kernel
theorem dX7_removeReference_35 : decode cX7_removeReference 35 = .ok (.iload_n 2, 1) := by decide +kernel
theorem dX7_removeReference_36 : decode cX7_removeReference 36 = .ok (.iconst 2, 1) := by decide +kernel
theorem dX7_removeReference_37 : decode cX7_removeReference 37 = .ok (.iadd, 1) := by decide +kernel
theorem dX7_removeReference_38 : decode cX7_removeReference 38 = .ok (.bipush 62, 2) := by decide +kernel
theorem dX7_removeReference_40 : decode cX7_removeReference 40 = .ok (.if_icmp .ge 23, 3) := by decide +kernel
theorem dX7_removeReference_43 : decode cX7_removeReference 43 = .ok (.aload_n 0, 1) := by decide +kernel
theorem dX7_removeReference_44 : decode cX7_removeReference 44 = .ok (.getfield 7, 3) := by decide +kernel
theorem dX7_removeReference_47 : decode cX7_removeReference 47 = .ok (.iload_n 2, 1) := by decide +kernel
theorem dX7_removeReference_48 : decode cX7_removeReference 48 = .ok (.aload_n 0, 1) := by decide +kernel
theorem dX7_removeReference_49 : decode cX7_removeReference 49 = .ok (.getfield 7, 3) := by decide +kernel
theorem dX7_removeReference_52 : decode cX7_removeReference 52 = .ok (.iload_n 2, 1) := by decide +kernel
theorem dX7_removeReference_53 : decode cX7_removeReference 53 = .ok (.iconst 2, 1) := by decide +kernel
theorem dX7_removeReference_54 : decode cX7_removeReference 54 = .ok (.iadd, 1) := by decide +kernel
theorem dX7_removeReference_55 : decode cX7_removeReference 55 = .ok (.iaload, 1) := by decide +kernel
theorem dX7_removeReference_56 : decode cX7_removeReference 56 = .ok (.iastore, 1) := by decide +kernel
theorem dX7_removeReference_57 : decode cX7_removeReference 57 = .ok (.iinc 2 1, 3) := by decide +kernel
theorem dX7_removeReference_60 : decode cX7_removeReference 60 = .ok (.goto (-25), 3) := by decide +kernel
theorem dX7_removeReference_63 : decode cX7_removeReference 63 = .ok (.aload_n 0, 1) := by decide +kernel
theorem dX7_removeReference_64 : decode cX7_removeReference 64 = .ok (.getfield 7, 3) := by decide +kernel
theorem dX7_removeReference_67 : decode cX7_removeReference 67 = .ok (.bipush 41, 2) := by decide +kernel
theorem dX7_removeReference_69 : decode cX7_removeReference 69 = .ok (.dup2, 1) := by decide +kernel
theorem dX7_removeReference_70 : decode cX7_removeReference 70 = .ok (.iaload, 1) := by decide +kernel
theorem dX7_removeReference_71 : decode cX7_removeReference 71 = .ok (.iconst 1, 1) := by decide +kernel
theorem dX7_removeReference_72 : decode cX7_removeReference 72 = .ok (.isub, 1) := by decide +kernel
theorem dX7_removeReference_73 : decode cX7_removeReference 73 = .ok (.iastore, 1) := by decide +kernel
theorem dX7_removeReference_74 : decode cX7_removeReference 74 = .ok (.aload_n 0, 1) := by decide +kernel
theorem dX7_removeReference_75 : decode cX7_removeReference 75 = .ok (.invokevirtual 102, 3) := by decide +kernel
theorem dX7_removeReference_78 : decode cX7_removeReference 78 = .ok (.aload_n 0, 1) := by decide +kernel
theorem dX7_removeReference_79 : decode cX7_removeReference 79 = .ok (.getfield 7, 3) := by decide +kernel
theorem dX7_removeReference_82 : decode cX7_removeReference 82 = .ok (.bipush 41, 2) := by decide +kernel
theorem dX7_removeReference_84 : decode cX7_removeReference 84 = .ok (.iaload, 1) := by decide +kernel
theorem dX7_removeReference_85 : decode cX7_removeReference 85 = .ok (.ireturn, 1) := by decide +kernel
theorem dX7_requirementOf_0 : decode cX7_requirementOf 0 = .ok (.iconst 0, 1) := by decide +kernel
theorem dX7_requirementOf_1 : decode cX7_requirementOf 1 = .ok (.istore_n 3, 1) := by decide +kernel
theorem dX7_requirementOf_2 : decode cX7_requirementOf 2 = .ok (.iload_n 3, 1) := by decide +kernel
theorem dX7_requirementOf_3 : decode cX7_requirementOf 3 = .ok (.aload_n 0, 1) := by decide +kernel
theorem dX7_requirementOf_4 : decode cX7_requirementOf 4 = .ok (.getfield 7, 3) := by decide +kernel
theorem dX7_requirementOf_7 : decode cX7_requirementOf 7 = .ok (.bipush 62, 2) := by decide +kernel
theorem dX7_requirementOf_9 : decode cX7_requirementOf 9 = .ok (.iaload, 1) := by decide +kernel
theorem dX7_requirementOf_10 : decode cX7_requirementOf 10 = .ok (.if_icmp .ge 43, 3) := by decide +kernel
theorem dX7_requirementOf_13 : decode cX7_requirementOf 13 = .ok (.aload_n 0, 1) := by decide +kernel
theorem dX7_requirementOf_14 : decode cX7_requirementOf 14 = .ok (.getfield 7, 3) := by decide +kernel
theorem dX7_requirementOf_17 : decode cX7_requirementOf 17 = .ok (.bipush 63, 2) := by decide +kernel
theorem dX7_requirementOf_19 : decode cX7_requirementOf 19 = .ok (.iconst 2, 1) := by decide +kernel
theorem dX7_requirementOf_20 : decode cX7_requirementOf 20 = .ok (.iload_n 3, 1) := by decide +kernel
theorem dX7_requirementOf_21 : decode cX7_requirementOf 21 = .ok (.imul, 1) := by decide +kernel
theorem dX7_requirementOf_22 : decode cX7_requirementOf 22 = .ok (.iadd, 1) := by decide +kernel
theorem dX7_requirementOf_23 : decode cX7_requirementOf 23 = .ok (.iaload, 1) := by decide +kernel
theorem dX7_requirementOf_24 : decode cX7_requirementOf 24 = .ok (.iload_n 1, 1) := by decide +kernel
theorem dX7_requirementOf_25 : decode cX7_requirementOf 25 = .ok (.if_icmp .ne 22, 3) := by decide +kernel
theorem dX7_requirementOf_28 : decode cX7_requirementOf 28 = .ok (.aload_n 0, 1) := by decide +kernel
theorem dX7_requirementOf_29 : decode cX7_requirementOf 29 = .ok (.getfield 7, 3) := by decide +kernel
theorem dX7_requirementOf_32 : decode cX7_requirementOf 32 = .ok (.bipush 63, 2) := by decide +kernel
theorem dX7_requirementOf_34 : decode cX7_requirementOf 34 = .ok (.iconst 2, 1) := by decide +kernel
theorem dX7_requirementOf_35 : decode cX7_requirementOf 35 = .ok (.iload_n 3, 1) := by decide +kernel
theorem dX7_requirementOf_36 : decode cX7_requirementOf 36 = .ok (.imul, 1) := by decide +kernel
theorem dX7_requirementOf_37 : decode cX7_requirementOf 37 = .ok (.iadd, 1) := by decide +kernel
theorem dX7_requirementOf_38 : decode cX7_requirementOf 38 = .ok (.iconst 1, 1) := by decide +kernel
theorem dX7_requirementOf_39 : decode cX7_requirementOf 39 = .ok (.iadd, 1) := by decide +kernel
theorem dX7_requirementOf_40 : decode cX7_requirementOf 40 = .ok (.iaload, 1) := by decide +kernel
theorem dX7_requirementOf_41 : decode cX7_requirementOf 41 = .ok (.iload_n 2, 1) := by decide +kernel
theorem dX7_requirementOf_42 : decode cX7_requirementOf 42 = .ok (.if_icmp .ne 5, 3) := by decide +kernel
theorem dX7_requirementOf_45 : decode cX7_requirementOf 45 = .ok (.iload_n 3, 1) := by decide +kernel
theorem dX7_requirementOf_46 : decode cX7_requirementOf 46 = .ok (.ireturn, 1) := by decide +kernel
theorem dX7_requirementOf_47 : decode cX7_requirementOf 47 = .ok (.iinc 3 1, 3) := by decide +kernel
theorem dX7_requirementOf_50 : decode cX7_requirementOf 50 = .ok (.goto (-48), 3) := by decide +kernel
theorem dX7_requirementOf_53 : decode cX7_requirementOf 53 = .ok (.bipush (-9), 2) := by decide +kernel
theorem dX7_requirementOf_55 : decode cX7_requirementOf 55 = .ok (.ireturn, 1) := by decide +kernel
theorem dX7_restartRun_0 : decode cX7_restartRun 0 = .ok (.aload_n 0, 1) := by decide +kernel
theorem dX7_restartRun_1 : decode cX7_restartRun 1 = .ok (.iconst 0, 1) := by decide +kernel
theorem dX7_restartRun_2 : decode cX7_restartRun 2 = .ok (.putfield 32, 3) := by decide +kernel
theorem dX7_restartRun_5 : decode cX7_restartRun 5 = .ok (.aload_n 0, 1) := by decide +kernel
theorem dX7_restartRun_6 : decode cX7_restartRun 6 = .ok (.invokevirtual 99, 3) := by decide +kernel
theorem dX7_restartRun_9 : decode cX7_restartRun 9 = .ok (.iconst 0, 1) := by decide +kernel
theorem dX7_restartRun_10 : decode cX7_restartRun 10 = .ok (.istore_n 1, 1) := by decide +kernel
theorem dX7_restartRun_11 : decode cX7_restartRun 11 = .ok (.iconst 0, 1) := by decide +kernel
theorem dX7_restartRun_12 : decode cX7_restartRun 12 = .ok (.istore_n 2, 1) := by decide +kernel
theorem dX7_restartRun_13 : decode cX7_restartRun 13 = .ok (.iload_n 2, 1) := by decide +kernel
theorem dX7_restartRun_14 : decode cX7_restartRun 14 = .ok (.bipush 10, 2) := by decide +kernel
theorem dX7_restartRun_16 : decode cX7_restartRun 16 = .ok (.if_icmp .ge 24, 3) := by decide +kernel
theorem dX7_restartRun_19 : decode cX7_restartRun 19 = .ok (.iload_n 1, 1) := by decide +kernel
theorem dX7_restartRun_20 : decode cX7_restartRun 20 = .ok (.aload_n 0, 1) := by decide +kernel
theorem dX7_restartRun_21 : decode cX7_restartRun 21 = .ok (.getfield 7, 3) := by decide +kernel
theorem dX7_restartRun_24 : decode cX7_restartRun 24 = .ok (.bipush 71, 2) := by decide +kernel
theorem dX7_restartRun_26 : decode cX7_restartRun 26 = .ok (.iload_n 2, 1) := by decide +kernel
theorem dX7_restartRun_27 : decode cX7_restartRun 27 = .ok (.iadd, 1) := by decide +kernel
theorem dX7_restartRun_28 : decode cX7_restartRun 28 = .ok (.iaload, 1) := by decide +kernel
theorem dX7_restartRun_29 : decode cX7_restartRun 29 = .ok (.invokestatic 194, 3) := by decide +kernel
theorem dX7_restartRun_32 : decode cX7_restartRun 32 = .ok (.iadd, 1) := by decide +kernel
theorem dX7_restartRun_33 : decode cX7_restartRun 33 = .ok (.istore_n 1, 1) := by decide +kernel
theorem dX7_restartRun_34 : decode cX7_restartRun 34 = .ok (.iinc 2 1, 3) := by decide +kernel
theorem dX7_restartRun_37 : decode cX7_restartRun 37 = .ok (.goto (-24), 3) := by decide +kernel
theorem dX7_restartRun_40 : decode cX7_restartRun 40 = .ok (.aload_n 0, 1) := by decide +kernel
theorem dX7_restartRun_41 : decode cX7_restartRun 41 = .ok (.invokevirtual 102, 3) := by decide +kernel
theorem dX7_restartRun_44 : decode cX7_restartRun 44 = .ok (.iload_n 1, 1) := by decide +kernel
theorem dX7_restartRun_45 : decode cX7_restartRun 45 = .ok (.ireturn, 1) := by decide +kernel
theorem dX7_round_0 : decode cX7_round 0 = .ok (.aload_n 0, 1) := by decide +kernel
theorem dX7_round_1 : decode cX7_round 1 = .ok (.iconst 0, 1) := by decide +kernel
theorem dX7_round_2 : decode cX7_round 2 = .ok (.putfield 32, 3) := by decide +kernel
theorem dX7_round_5 : decode cX7_round 5 = .ok (.aload_n 0, 1) := by decide +kernel
theorem dX7_round_6 : decode cX7_round 6 = .ok (.iload_n 1, 1) := by decide +kernel
theorem dX7_round_7 : decode cX7_round 7 = .ok (.iload_n 2, 1) := by decide +kernel
theorem dX7_round_8 : decode cX7_round 8 = .ok (.invokevirtual 166, 3) := by decide +kernel
theorem dX7_round_11 : decode cX7_round 11 = .ok (.ifCond .eq 12, 3) := by decide +kernel
theorem dX7_round_14 : decode cX7_round 14 = .ok (.aload_n 0, 1) := by decide +kernel
theorem dX7_round_15 : decode cX7_round 15 = .ok (.iload_n 1, 1) := by decide +kernel
theorem dX7_round_16 : decode cX7_round 16 = .ok (.iload_n 2, 1) := by decide +kernel
theorem dX7_round_17 : decode cX7_round 17 = .ok (.invokevirtual 169, 3) := by decide +kernel
theorem dX7_round_20 : decode cX7_round 20 = .ok (.goto 4, 3) := by decide +kernel
theorem dX7_round_23 : decode cX7_round 23 = .ok (.iconst (-1), 1) := by decide +kernel
theorem dX7_round_24 : decode cX7_round 24 = .ok (.ireturn, 1) := by decide +kernel
theorem dX7_roundOf_0 : decode cX7_roundOf 0 = .ok (.aload_n 0, 1) := by decide +kernel
theorem dX7_roundOf_1 : decode cX7_roundOf 1 = .ok (.iconst 0, 1) := by decide +kernel
theorem dX7_roundOf_2 : decode cX7_roundOf 2 = .ok (.invokevirtual 163, 3) := by decide +kernel
theorem dX7_roundOf_5 : decode cX7_roundOf 5 = .ok (.aload_n 0, 1) := by decide +kernel
theorem dX7_roundOf_6 : decode cX7_roundOf 6 = .ok (.getfield 22, 3) := by decide +kernel
theorem dX7_roundOf_9 : decode cX7_roundOf 9 = .ok (.bipush 10, 2) := by decide +kernel
theorem dX7_roundOf_11 : decode cX7_roundOf 11 = .ok (.iload_n 1, 1) := by decide +kernel
theorem dX7_roundOf_12 : decode cX7_roundOf 12 = .ok (.imul, 1) := by decide +kernel
theorem dX7_roundOf_13 : decode cX7_roundOf 13 = .ok (.iload_n 2, 1) := by decide +kernel
theorem dX7_roundOf_14 : decode cX7_roundOf 14 = .ok (.iadd, 1) := by decide +kernel
theorem dX7_roundOf_15 : decode cX7_roundOf 15 = .ok (.iaload, 1) := by decide +kernel
theorem dX7_roundOf_16 : decode cX7_roundOf 16 = .ok (.ireturn, 1) := by decide +kernel
theorem dX7_rule_0 : decode cX7_rule 0 = .ok (.aload_n 0, 1) := by decide +kernel
theorem dX7_rule_1 : decode cX7_rule 1 = .ok (.iconst 0, 1) := by decide +kernel
theorem dX7_rule_2 : decode cX7_rule 2 = .ok (.putfield 32, 3) := by decide +kernel
theorem dX7_rule_5 : decode cX7_rule 5 = .ok (.aload_n 0, 1) := by decide +kernel
theorem dX7_rule_6 : decode cX7_rule 6 = .ok (.iload_n 1, 1) := by decide +kernel
theorem dX7_rule_7 : decode cX7_rule 7 = .ok (.iload_n 2, 1) := by decide +kernel
theorem dX7_rule_8 : decode cX7_rule 8 = .ok (.invokevirtual 166, 3) := by decide +kernel
theorem dX7_rule_11 : decode cX7_rule 11 = .ok (.ifCond .ne 5, 3) := by decide +kernel
theorem dX7_rule_14 : decode cX7_rule 14 = .ok (.iconst (-1), 1) := by decide +kernel
theorem dX7_rule_15 : decode cX7_rule 15 = .ok (.ireturn, 1) := by decide +kernel
theorem dX7_rule_16 : decode cX7_rule 16 = .ok (.aload_n 0, 1) := by decide +kernel
theorem dX7_rule_17 : decode cX7_rule 17 = .ok (.iload_n 1, 1) := by decide +kernel
theorem dX7_rule_18 : decode cX7_rule 18 = .ok (.iload_n 2, 1) := by decide +kernel
theorem dX7_rule_19 : decode cX7_rule 19 = .ok (.invokevirtual 169, 3) := by decide +kernel
theorem dX7_rule_22 : decode cX7_rule 22 = .ok (.istore_n 3, 1) := by decide +kernel
theorem dX7_rule_23 : decode cX7_rule 23 = .ok (.iload_n 3, 1) := by decide +kernel
theorem dX7_rule_24 : decode cX7_rule 24 = .ok (.iconst 1, 1) := by decide +kernel
theorem dX7_rule_25 : decode cX7_rule 25 = .ok (.if_icmp .ge 7, 3) := by decide +kernel
theorem dX7_rule_28 : decode cX7_rule 28 = .ok (.iload_n 3, 1) := by decide +kernel
theorem dX7_rule_29 : decode cX7_rule 29 = .ok (.goto 10, 3) := by decide +kernel
theorem dX7_rule_32 : decode cX7_rule 32 = .ok (.aload_n 0, 1) := by decide +kernel
theorem dX7_rule_33 : decode cX7_rule 33 = .ok (.iload_n 1, 1) := by decide +kernel
theorem dX7_rule_34 : decode cX7_rule 34 = .ok (.iload_n 2, 1) := by decide +kernel
theorem dX7_rule_35 : decode cX7_rule 35 = .ok (.iload_n 3, 1) := by decide +kernel
theorem dX7_rule_36 : decode cX7_rule 36 = .ok (.invokevirtual 160, 3) := by decide +kernel
theorem dX7_rule_39 : decode cX7_rule 39 = .ok (.ireturn, 1) := by decide +kernel
theorem dX7_ruleFor_0 : decode cX7_ruleFor 0 = .ok (.iconst 1, 1) := by decide +kernel
theorem dX7_ruleFor_1 : decode cX7_ruleFor 1 = .ok (.istore 4, 2) := by decide +kernel
theorem dX7_ruleFor_3 : decode cX7_ruleFor 3 = .ok (.iload 4, 2) := by decide +kernel
theorem dX7_ruleFor_5 : decode cX7_ruleFor 5 = .ok (.iconst 5, 1) := by decide +kernel
theorem dX7_ruleFor_6 : decode cX7_ruleFor 6 = .ok (.if_icmp .gt 26, 3) := by decide +kernel
theorem dX7_ruleFor_9 : decode cX7_ruleFor 9 = .ok (.aload_n 0, 1) := by decide +kernel
theorem dX7_ruleFor_10 : decode cX7_ruleFor 10 = .ok (.iload 4, 2) := by decide +kernel
theorem dX7_ruleFor_12 : decode cX7_ruleFor 12 = .ok (.iload_n 1, 1) := by decide +kernel
theorem dX7_ruleFor_13 : decode cX7_ruleFor 13 = .ok (.iload_n 2, 1) := by decide +kernel
theorem dX7_ruleFor_14 : decode cX7_ruleFor 14 = .ok (.iload_n 3, 1) := by decide +kernel
theorem dX7_ruleFor_15 : decode cX7_ruleFor 15 = .ok (.invokevirtual 147, 3) := by decide +kernel
theorem dX7_ruleFor_18 : decode cX7_ruleFor 18 = .ok (.bipush (-9), 2) := by decide +kernel
theorem dX7_ruleFor_20 : decode cX7_ruleFor 20 = .ok (.if_icmp .eq 6, 3) := by decide +kernel
theorem dX7_ruleFor_23 : decode cX7_ruleFor 23 = .ok (.iload 4, 2) := by decide +kernel
theorem dX7_ruleFor_25 : decode cX7_ruleFor 25 = .ok (.ireturn, 1) := by decide +kernel
theorem dX7_ruleFor_26 : decode cX7_ruleFor 26 = .ok (.iinc 4 1, 3) := by decide +kernel
theorem dX7_ruleFor_29 : decode cX7_ruleFor 29 = .ok (.goto (-26), 3) := by decide +kernel
theorem dX7_ruleFor_32 : decode cX7_ruleFor 32 = .ok (.bipush (-9), 2) := by decide +kernel
theorem dX7_ruleFor_34 : decode cX7_ruleFor 34 = .ok (.ireturn, 1) := by decide +kernel
theorem dX7_save_0 : decode cX7_save 0 = .ok (.aload_n 0, 1) := by decide +kernel
theorem dX7_save_1 : decode cX7_save 1 = .ok (.getfield 105, 3) := by decide +kernel
theorem dX7_save_4 : decode cX7_save 4 = .ok (.iconst 5, 1) := by decide +kernel
theorem dX7_save_5 : decode cX7_save 5 = .ok (.if_icmp .ne 43, 3) := by decide +kernel
theorem dX7_save_8 : decode cX7_save 8 = .ok (.iconst 0, 1) := by decide +kernel
theorem dX7_save_9 : decode cX7_save 9 = .ok (.istore_n 1, 1) := by decide +kernel
theorem dX7_save_10 : decode cX7_save 10 = .ok (.iload_n 1, 1) := by decide +kernel
theorem dX7_save_11 : decode cX7_save 11 = .ok (.sipush 324, 3) := by decide +kernel
theorem dX7_save_14 : decode cX7_save 14 = .ok (.if_icmp .ge 24, 3) := by decide +kernel
theorem dX7_save_17 : decode cX7_save 17 = .ok (.aload_n 0, 1) := by decide +kernel
theorem dX7_save_18 : decode cX7_save 18 = .ok (.getfield 16, 3) := by decide +kernel
theorem dX7_save_21 : decode cX7_save 21 = .ok (.iload_n 1, 1) := by decide +kernel
theorem dX7_save_22 : decode cX7_save 22 = .ok (.aload_n 0, 1) := by decide +kernel
theorem dX7_save_23 : decode cX7_save 23 = .ok (.getfield 16, 3) := by decide +kernel
theorem dX7_save_26 : decode cX7_save 26 = .ok (.bipush 81, 2) := by decide +kernel
theorem dX7_save_28 : decode cX7_save 28 = .ok (.iload_n 1, 1) := by decide +kernel
theorem dX7_save_29 : decode cX7_save 29 = .ok (.iadd, 1) := by decide +kernel
theorem dX7_save_30 : decode cX7_save 30 = .ok (.iaload, 1) := by decide +kernel
theorem dX7_save_31 : decode cX7_save 31 = .ok (.iastore, 1) := by decide +kernel
theorem dX7_save_32 : decode cX7_save 32 = .ok (.iinc 1 1, 3) := by decide +kernel
theorem dX7_save_35 : decode cX7_save 35 = .ok (.goto (-25), 3) := by decide +kernel
theorem dX7_save_38 : decode cX7_save 38 = .ok (.aload_n 0, 1) := by decide +kernel
theorem dX7_save_39 : decode cX7_save 39 = .ok (.dup, 1) := by decide +kernel
theorem dX7_save_40 : decode cX7_save 40 = .ok (.getfield 105, 3) := by decide +kernel
theorem dX7_save_43 : decode cX7_save 43 = .ok (.iconst 1, 1) := by decide +kernel
theorem dX7_save_44 : decode cX7_save 44 = .ok (.isub, 1) := by decide +kernel
theorem dX7_save_45 : decode cX7_save 45 = .ok (.putfield 105, 3) := by decide +kernel
theorem dX7_save_48 : decode cX7_save 48 = .ok (.iconst 0, 1) := by decide +kernel
theorem dX7_save_49 : decode cX7_save 49 = .ok (.istore_n 1, 1) := by decide +kernel
theorem dX7_save_50 : decode cX7_save 50 = .ok (.iload_n 1, 1) := by decide +kernel
theorem dX7_save_51 : decode cX7_save 51 = .ok (.bipush 81, 2) := by decide +kernel
theorem dX7_save_53 : decode cX7_save 53 = .ok (.if_icmp .ge 29, 3) := by decide +kernel
theorem dX7_save_56 : decode cX7_save 56 = .ok (.aload_n 0, 1) := by decide +kernel
theorem dX7_save_57 : decode cX7_save 57 = .ok (.getfield 16, 3) := by decide +kernel
theorem dX7_save_60 : decode cX7_save 60 = .ok (.bipush 81, 2) := by decide +kernel
theorem dX7_save_62 : decode cX7_save 62 = .ok (.aload_n 0, 1) := by decide +kernel
theorem dX7_save_63 : decode cX7_save 63 = .ok (.getfield 105, 3) := by decide +kernel
theorem dX7_save_66 : decode cX7_save 66 = .ok (.imul, 1) := by decide +kernel
theorem dX7_save_67 : decode cX7_save 67 = .ok (.iload_n 1, 1) := by decide +kernel
theorem dX7_save_68 : decode cX7_save 68 = .ok (.iadd, 1) := by decide +kernel
theorem dX7_save_69 : decode cX7_save 69 = .ok (.aload_n 0, 1) := by decide +kernel
theorem dX7_save_70 : decode cX7_save 70 = .ok (.getfield 7, 3) := by decide +kernel
theorem dX7_save_73 : decode cX7_save 73 = .ok (.iload_n 1, 1) := by decide +kernel
theorem dX7_save_74 : decode cX7_save 74 = .ok (.iaload, 1) := by decide +kernel
theorem dX7_save_75 : decode cX7_save 75 = .ok (.iastore, 1) := by decide +kernel
theorem dX7_save_76 : decode cX7_save 76 = .ok (.iinc 1 1, 3) := by decide +kernel
theorem dX7_save_79 : decode cX7_save 79 = .ok (.goto (-29), 3) := by decide +kernel
theorem dX7_save_82 : decode cX7_save 82 = .ok (.aload_n 0, 1) := by decide +kernel
theorem dX7_save_83 : decode cX7_save 83 = .ok (.dup, 1) := by decide +kernel
theorem dX7_save_84 : decode cX7_save 84 = .ok (.getfield 105, 3) := by decide +kernel
theorem dX7_save_87 : decode cX7_save 87 = .ok (.iconst 1, 1) := by decide +kernel
theorem dX7_save_88 : decode cX7_save 88 = .ok (.iadd, 1) := by decide +kernel
theorem dX7_save_89 : decode cX7_save 89 = .ok (.putfield 105, 3) := by decide +kernel
theorem dX7_save_92 : decode cX7_save 92 = .ok (.return_, 1) := by decide +kernel
theorem dX7_saveAndHold_0 : decode cX7_saveAndHold 0 = .ok (.aload_n 0, 1) := by decide +kernel
theorem dX7_saveAndHold_1 : decode cX7_saveAndHold 1 = .ok (.iload_n 1, 1) := by decide +kernel
theorem dX7_saveAndHold_2 : decode cX7_saveAndHold 2 = .ok (.iload_n 2, 1) := by decide +kernel
theorem dX7_saveAndHold_3 : decode cX7_saveAndHold 3 = .ok (.invokevirtual 197, 3) := by decide +kernel
theorem dX7_saveAndHold_6 : decode cX7_saveAndHold 6 = .ok (.ifCond .eq 7, 3) := by decide +kernel
theorem dX7_saveAndHold_9 : decode cX7_saveAndHold 9 = .ok (.iconst 0, 1) := by decide +kernel
theorem dX7_saveAndHold_10 : decode cX7_saveAndHold 10 = .ok (.goto 4, 3) := by decide +kernel
theorem dX7_saveAndHold_13 : decode cX7_saveAndHold 13 = .ok (.iconst 1, 1) := by decide +kernel
theorem dX7_saveAndHold_14 : decode cX7_saveAndHold 14 = .ok (.istore_n 3, 1) := by decide +kernel
theorem dX7_saveAndHold_15 : decode cX7_saveAndHold 15 = .ok (.aload_n 0, 1) := by decide +kernel
theorem dX7_saveAndHold_16 : decode cX7_saveAndHold 16 = .ok (.invokevirtual 99, 3) := by decide +kernel
theorem dX7_saveAndHold_19 : decode cX7_saveAndHold 19 = .ok (.aload_n 0, 1) := by decide +kernel
theorem dX7_saveAndHold_20 : decode cX7_saveAndHold 20 = .ok (.getfield 7, 3) := by decide +kernel
theorem dX7_saveAndHold_23 : decode cX7_saveAndHold 23 = .ok (.bipush 71, 2) := by decide +kernel
theorem dX7_saveAndHold_25 : decode cX7_saveAndHold 25 = .ok (.iload_n 1, 1) := by decide +kernel
theorem dX7_saveAndHold_26 : decode cX7_saveAndHold 26 = .ok (.iadd, 1) := by decide +kernel
theorem dX7_saveAndHold_27 : decode cX7_saveAndHold 27 = .ok (.dup2, 1) := by decide +kernel
theorem dX7_saveAndHold_28 : decode cX7_saveAndHold 28 = .ok (.iaload, 1) := by decide +kernel
theorem dX7_saveAndHold_29 : decode cX7_saveAndHold 29 = .ok (.iconst 1, 1) := by decide +kernel
theorem dX7_saveAndHold_30 : decode cX7_saveAndHold 30 = .ok (.iload_n 2, 1) := by decide +kernel
theorem dX7_saveAndHold_31 : decode cX7_saveAndHold 31 = .ok (.ishl, 1) := by decide +kernel
theorem dX7_saveAndHold_32 : decode cX7_saveAndHold 32 = .ok (.ior, 1) := by decide +kernel
theorem dX7_saveAndHold_33 : decode cX7_saveAndHold 33 = .ok (.iastore, 1) := by decide +kernel
theorem dX7_saveAndHold_34 : decode cX7_saveAndHold 34 = .ok (.iload_n 3, 1) := by decide +kernel
theorem dX7_saveAndHold_35 : decode cX7_saveAndHold 35 = .ok (.ireturn, 1) := by decide +kernel
theorem dX7_setBehaviour_0 : decode cX7_setBehaviour 0 = .ok (.aload_n 0, 1) := by decide +kernel
theorem dX7_setBehaviour_1 : decode cX7_setBehaviour 1 = .ok (.iconst 0, 1) := by decide +kernel
theorem dX7_setBehaviour_2 : decode cX7_setBehaviour 2 = .ok (.putfield 32, 3) := by decide +kernel
theorem dX7_setBehaviour_5 : decode cX7_setBehaviour 5 = .ok (.aload_n 0, 1) := by decide +kernel
theorem dX7_setBehaviour_6 : decode cX7_setBehaviour 6 = .ok (.iload_n 1, 1) := by decide +kernel
theorem dX7_setBehaviour_7 : decode cX7_setBehaviour 7 = .ok (.iconst 0, 1) := by decide +kernel
theorem dX7_setBehaviour_8 : decode cX7_setBehaviour 8 = .ok (.invokevirtual 112, 3) := by decide +kernel
theorem dX7_setBehaviour_11 : decode cX7_setBehaviour 11 = .ok (.ifCond .eq 25, 3) := by decide +kernel
theorem dX7_setBehaviour_14 : decode cX7_setBehaviour 14 = .ok (.iload_n 2, 1) := by decide +kernel
theorem dX7_setBehaviour_15 : decode cX7_setBehaviour 15 = .ok (.iconst 0, 1) := by decide +kernel
theorem dX7_setBehaviour_16 : decode cX7_setBehaviour 16 = .ok (.bipush 15, 2) := by decide +kernel
theorem dX7_setBehaviour_18 : decode cX7_setBehaviour 18 = .ok (.invokestatic 56, 3) := by decide +kernel
theorem dX7_setBehaviour_21 : decode cX7_setBehaviour 21 = .ok (.ifCond .eq 15, 3) := by decide +kernel
theorem dX7_setBehaviour_24 : decode cX7_setBehaviour 24 = .ok (.aload_n 0, 1) := by decide +kernel
theorem dX7_setBehaviour_25 : decode cX7_setBehaviour 25 = .ok (.bipush 11, 2) := by decide +kernel
theorem dX7_setBehaviour_27 : decode cX7_setBehaviour 27 = .ok (.iload_n 1, 1) := by decide +kernel
theorem dX7_setBehaviour_28 : decode cX7_setBehaviour 28 = .ok (.iadd, 1) := by decide +kernel
theorem dX7_setBehaviour_29 : decode cX7_setBehaviour 29 = .ok (.iload_n 2, 1) := by decide +kernel
theorem dX7_setBehaviour_30 : decode cX7_setBehaviour 30 = .ok (.invokevirtual 115, 3) := by decide +kernel
theorem dX7_setBehaviour_33 : decode cX7_setBehaviour 33 = .ok (.goto 4, 3) := by decide +kernel
theorem dX7_setBehaviour_36 : decode cX7_setBehaviour 36 = .ok (.iconst (-1), 1) := by decide +kernel
theorem dX7_setBehaviour_37 : decode cX7_setBehaviour 37 = .ok (.ireturn, 1) := by decide +kernel
theorem dX7_setGroup_0 : decode cX7_setGroup 0 = .ok (.aload_n 0, 1) := by decide +kernel
theorem dX7_setGroup_1 : decode cX7_setGroup 1 = .ok (.iconst 0, 1) := by decide +kernel
theorem dX7_setGroup_2 : decode cX7_setGroup 2 = .ok (.putfield 32, 3) := by decide +kernel
theorem dX7_setGroup_5 : decode cX7_setGroup 5 = .ok (.aload_n 0, 1) := by decide +kernel
theorem dX7_setGroup_6 : decode cX7_setGroup 6 = .ok (.iload_n 1, 1) := by decide +kernel
theorem dX7_setGroup_7 : decode cX7_setGroup 7 = .ok (.invokevirtual 108, 3) := by decide +kernel
theorem dX7_setGroup_10 : decode cX7_setGroup 10 = .ok (.ifCond .eq 24, 3) := by decide +kernel
theorem dX7_setGroup_13 : decode cX7_setGroup 13 = .ok (.iload_n 2, 1) := by decide +kernel
theorem dX7_setGroup_14 : decode cX7_setGroup 14 = .ok (.iconst 0, 1) := by decide +kernel
theorem dX7_setGroup_15 : decode cX7_setGroup 15 = .ok (.iconst 5, 1) := by decide +kernel
theorem dX7_setGroup_16 : decode cX7_setGroup 16 = .ok (.invokestatic 56, 3) := by decide +kernel
theorem dX7_setGroup_19 : decode cX7_setGroup 19 = .ok (.ifCond .eq 15, 3) := by decide +kernel
theorem dX7_setGroup_22 : decode cX7_setGroup 22 = .ok (.aload_n 0, 1) := by decide +kernel
theorem dX7_setGroup_23 : decode cX7_setGroup 23 = .ok (.bipush 31, 2) := by decide +kernel
theorem dX7_setGroup_25 : decode cX7_setGroup 25 = .ok (.iload_n 1, 1) := by decide +kernel
theorem dX7_setGroup_26 : decode cX7_setGroup 26 = .ok (.iadd, 1) := by decide +kernel
theorem dX7_setGroup_27 : decode cX7_setGroup 27 = .ok (.iload_n 2, 1) := by decide +kernel
theorem dX7_setGroup_28 : decode cX7_setGroup 28 = .ok (.invokevirtual 115, 3) := by decide +kernel
theorem dX7_setGroup_31 : decode cX7_setGroup 31 = .ok (.goto 4, 3) := by decide +kernel
theorem dX7_setGroup_34 : decode cX7_setGroup 34 = .ok (.iconst (-1), 1) := by decide +kernel
theorem dX7_setGroup_35 : decode cX7_setGroup 35 = .ok (.ireturn, 1) := by decide +kernel
theorem dX7_smallestRepair_0 : decode cX7_smallestRepair 0 = .ok (.aload_n 0, 1) := by decide +kernel
theorem dX7_smallestRepair_1 : decode cX7_smallestRepair 1 = .ok (.iconst 0, 1) := by decide +kernel
theorem dX7_smallestRepair_2 : decode cX7_smallestRepair 2 = .ok (.putfield 32, 3) := by decide +kernel
theorem dX7_smallestRepair_5 : decode cX7_smallestRepair 5 = .ok (.bipush (-9), 2) := by decide +kernel
theorem dX7_smallestRepair_7 : decode cX7_smallestRepair 7 = .ok (.istore_n 1, 1) := by decide +kernel
theorem dX7_smallestRepair_8 : decode cX7_smallestRepair 8 = .ok (.iconst 0, 1) := by decide +kernel
theorem dX7_smallestRepair_9 : decode cX7_smallestRepair 9 = .ok (.istore_n 2, 1) := by decide +kernel
theorem dX7_smallestRepair_10 : decode cX7_smallestRepair 10 = .ok (.iload_n 2, 1) := by decide +kernel
theorem dX7_smallestRepair_11 : decode cX7_smallestRepair 11 = .ok (.aload_n 0, 1) := by decide +kernel
theorem dX7_smallestRepair_12 : decode cX7_smallestRepair 12 = .ok (.getfield 7, 3) := by decide +kernel
theorem dX7_smallestRepair_15 : decode cX7_smallestRepair 15 = .ok (.bipush 41, 2) := by decide +kernel
theorem dX7_smallestRepair_17 : decode cX7_smallestRepair 17 = .ok (.iaload, 1) := by decide +kernel
theorem dX7_smallestRepair_18 : decode cX7_smallestRepair 18 = .ok (.if_icmp .gt 69, 3) := by decide +kernel
theorem dX7_smallestRepair_21 : decode cX7_smallestRepair 21 = .ok (.iload_n 1, 1) := by decide +kernel
theorem dX7_smallestRepair_22 : decode cX7_smallestRepair 22 = .ok (.bipush (-9), 2) := by decide +kernel
theorem dX7_smallestRepair_24 : decode cX7_smallestRepair 24 = .ok (.if_icmp .ne 63, 3) := by decide +kernel
theorem dX7_smallestRepair_27 : decode cX7_smallestRepair 27 = .ok (.iconst 0, 1) := by decide +kernel
theorem dX7_smallestRepair_28 : decode cX7_smallestRepair 28 = .ok (.istore_n 3, 1) := by decide +kernel
theorem dX7_smallestRepair_29 : decode cX7_smallestRepair 29 = .ok (.iload_n 3, 1) := by decide +kernel
theorem dX7_smallestRepair_30 : decode cX7_smallestRepair 30 = .ok (.iconst 1, 1) := by decide +kernel
theorem dX7_smallestRepair_31 : decode cX7_smallestRepair 31 = .ok (.aload_n 0, 1) := by decide +kernel
theorem dX7_smallestRepair_32 : decode cX7_smallestRepair 32 = .ok (.getfield 7, 3) := by decide +kernel
theorem dX7_smallestRepair_35 : decode cX7_smallestRepair 35 = .ok (.bipush 41, 2) := by decide +kernel
theorem dX7_smallestRepair_37 : decode cX7_smallestRepair 37 = .ok (.iaload, 1) := by decide +kernel
theorem dX7_smallestRepair_38 : decode cX7_smallestRepair 38 = .ok (.ishl, 1) := by decide +kernel
theorem dX7_smallestRepair_39 : decode cX7_smallestRepair 39 = .ok (.if_icmp .ge 42, 3) := by decide +kernel
theorem dX7_smallestRepair_42 : decode cX7_smallestRepair 42 = .ok (.iload_n 1, 1) := by decide +kernel
theorem dX7_smallestRepair_43 : decode cX7_smallestRepair 43 = .ok (.bipush (-9), 2) := by decide +kernel
theorem dX7_smallestRepair_45 : decode cX7_smallestRepair 45 = .ok (.if_icmp .ne 36, 3) := by decide +kernel
theorem dX7_smallestRepair_48 : decode cX7_smallestRepair 48 = .ok (.iload_n 3, 1) := by decide +kernel
theorem dX7_smallestRepair_49 : decode cX7_smallestRepair 49 = .ok (.invokestatic 194, 3) := by decide +kernel
theorem dX7_smallestRepair_52 : decode cX7_smallestRepair 52 = .ok (.iload_n 2, 1) := by decide +kernel
theorem dX7_smallestRepair_53 : decode cX7_smallestRepair 53 = .ok (.if_icmp .ne 22, 3) := by decide +kernel
theorem dX7_smallestRepair_56 : decode cX7_smallestRepair 56 = .ok (.aload_n 0, 1) := by decide +kernel
theorem dX7_smallestRepair_57 : decode cX7_smallestRepair 57 = .ok (.iload_n 3, 1) := by decide +kernel
theorem dX7_smallestRepair_58 : decode cX7_smallestRepair 58 = .ok (.invokevirtual 163, 3) := by decide +kernel
theorem dX7_smallestRepair_61 : decode cX7_smallestRepair 61 = .ok (.aload_n 0, 1) := by decide +kernel
theorem dX7_smallestRepair_62 : decode cX7_smallestRepair 62 = .ok (.invokevirtual 191, 3) := by decide +kernel
theorem dX7_smallestRepair_65 : decode cX7_smallestRepair 65 = .ok (.ifCond .ne 7, 3) := by decide +kernel
theorem dX7_smallestRepair_68 : decode cX7_smallestRepair 68 = .ok (.iload_n 3, 1) := by decide +kernel
theorem dX7_smallestRepair_69 : decode cX7_smallestRepair 69 = .ok (.goto 5, 3) := by decide +kernel
theorem dX7_smallestRepair_72 : decode cX7_smallestRepair 72 = .ok (.bipush (-9), 2) := by decide +kernel
theorem dX7_smallestRepair_74 : decode cX7_smallestRepair 74 = .ok (.istore_n 1, 1) := by decide +kernel
theorem dX7_smallestRepair_75 : decode cX7_smallestRepair 75 = .ok (.iinc 3 1, 3) := by decide +kernel
theorem dX7_smallestRepair_78 : decode cX7_smallestRepair 78 = .ok (.goto (-49), 3) := by decide +kernel
theorem dX7_smallestRepair_81 : decode cX7_smallestRepair 81 = .ok (.iinc 2 1, 3) := by decide +kernel
theorem dX7_smallestRepair_84 : decode cX7_smallestRepair 84 = .ok (.goto (-74), 3) := by decide +kernel
theorem dX7_smallestRepair_87 : decode cX7_smallestRepair 87 = .ok (.iload_n 1, 1) := by decide +kernel
theorem dX7_smallestRepair_88 : decode cX7_smallestRepair 88 = .ok (.ireturn, 1) := by decide +kernel
theorem dX7_take_0 : decode cX7_take 0 = .ok (.aload_n 0, 1) := by decide +kernel
theorem dX7_take_1 : decode cX7_take 1 = .ok (.getfield 64, 3) := by decide +kernel
theorem dX7_take_4 : decode cX7_take 4 = .ok (.istore_n 2, 1) := by decide +kernel
theorem dX7_take_5 : decode cX7_take 5 = .ok (.aload_n 0, 1) := by decide +kernel
theorem dX7_take_6 : decode cX7_take 6 = .ok (.invokevirtual 70, 3) := by decide +kernel
theorem dX7_take_9 : decode cX7_take 9 = .ok (.ifCond .eq 22, 3) := by decide +kernel
theorem dX7_take_12 : decode cX7_take 12 = .ok (.iload_n 1, 1) := by decide +kernel
theorem dX7_take_13 : decode cX7_take 13 = .ok (.ifCond .eq 10, 3) := by decide +kernel
theorem dX7_take_16 : decode cX7_take 16 = .ok (.aload_n 0, 1) := by decide +kernel
theorem dX7_take_17 : decode cX7_take 17 = .ok (.invokevirtual 74, 3) := by decide +kernel
theorem dX7_take_20 : decode cX7_take 20 = .ok (.goto 11, 3) := by decide +kernel
theorem dX7_take_23 : decode cX7_take 23 = .ok (.aload_n 0, 1) := by decide +kernel
theorem dX7_take_24 : decode cX7_take 24 = .ok (.aload_n 0, 1) := by decide +kernel
theorem dX7_take_25 : decode cX7_take 25 = .ok (.getfield 39, 3) := by decide +kernel
theorem dX7_take_28 : decode cX7_take 28 = .ok (.putfield 67, 3) := by decide +kernel
theorem dX7_take_31 : decode cX7_take 31 = .ok (.iload_n 2, 1) := by decide +kernel
theorem dX7_take_32 : decode cX7_take 32 = .ok (.ireturn, 1) := by decide +kernel
theorem dX7_take__0 : decode cX7_take_ 0 = .ok (.aload_n 0, 1) := by decide +kernel
theorem dX7_take__1 : decode cX7_take_ 1 = .ok (.iconst 0, 1) := by decide +kernel
theorem dX7_take__2 : decode cX7_take_ 2 = .ok (.putfield 32, 3) := by decide +kernel
theorem dX7_take__5 : decode cX7_take_ 5 = .ok (.aload_n 0, 1) := by decide +kernel
theorem dX7_take__6 : decode cX7_take_ 6 = .ok (.iload_n 1, 1) := by decide +kernel
theorem dX7_take__7 : decode cX7_take_ 7 = .ok (.iconst 2, 1) := by decide +kernel
theorem dX7_take__8 : decode cX7_take_ 8 = .ok (.invokevirtual 119, 3) := by decide +kernel
theorem dX7_take__11 : decode cX7_take_ 11 = .ok (.ifCond .eq 21, 3) := by decide +kernel
theorem dX7_take__14 : decode cX7_take_ 14 = .ok (.aload_n 0, 1) := by decide +kernel
theorem dX7_take__15 : decode cX7_take_ 15 = .ok (.iload_n 2, 1) := by decide +kernel
theorem dX7_take__16 : decode cX7_take_ 16 = .ok (.bipush 8, 2) := by decide +kernel
theorem dX7_take__18 : decode cX7_take_ 18 = .ok (.invokevirtual 119, 3) := by decide +kernel
theorem dX7_take__21 : decode cX7_take_ 21 = .ok (.ifCond .eq 11, 3) := by decide +kernel
theorem dX7_take__24 : decode cX7_take_ 24 = .ok (.aload_n 0, 1) := by decide +kernel
theorem dX7_take__25 : decode cX7_take_ 25 = .ok (.iload_n 3, 1) := by decide +kernel
theorem dX7_take__26 : decode cX7_take_ 26 = .ok (.invokevirtual 108, 3) := by decide +kernel
theorem dX7_take__29 : decode cX7_take_ 29 = .ok (.ifCond .ne 5, 3) := by decide +kernel
theorem dX7_take__32 : decode cX7_take_ 32 = .ok (.iconst (-1), 1) := by decide +kernel
theorem dX7_take__33 : decode cX7_take_ 33 = .ok (.ireturn, 1) := by decide +kernel
theorem dX7_take__34 : decode cX7_take_ 34 = .ok (.aload_n 0, 1) := by decide +kernel
theorem dX7_take__35 : decode cX7_take_ 35 = .ok (.iload_n 1, 1) := by decide +kernel
theorem dX7_take__36 : decode cX7_take_ 36 = .ok (.iload_n 2, 1) := by decide +kernel
theorem dX7_take__37 : decode cX7_take_ 37 = .ok (.invokevirtual 197, 3) := by decide +kernel
theorem dX7_take__40 : decode cX7_take_ 40 = .ok (.ifCond .eq 21, 3) := by decide +kernel
theorem dX7_take__43 : decode cX7_take_ 43 = .ok (.aload_n 0, 1) := by decide +kernel
theorem dX7_take__44 : decode cX7_take_ 44 = .ok (.iload_n 2, 1) := by decide +kernel
theorem dX7_take__45 : decode cX7_take_ 45 = .ok (.iload_n 3, 1) := by decide +kernel
theorem dX7_take__46 : decode cX7_take_ 46 = .ok (.invokevirtual 197, 3) := by decide +kernel
theorem dX7_take__49 : decode cX7_take_ 49 = .ok (.ifCond .eq 12, 3) := by decide +kernel
theorem dX7_take__52 : decode cX7_take_ 52 = .ok (.aload_n 0, 1) := by decide +kernel
theorem dX7_take__53 : decode cX7_take_ 53 = .ok (.iload_n 1, 1) := by decide +kernel
theorem dX7_take__54 : decode cX7_take_ 54 = .ok (.iload_n 3, 1) := by decide +kernel
theorem dX7_take__55 : decode cX7_take_ 55 = .ok (.invokevirtual 200, 3) := by decide +kernel
theorem dX7_take__58 : decode cX7_take_ 58 = .ok (.goto 5, 3) := by decide +kernel
theorem dX7_take__61 : decode cX7_take_ 61 = .ok (.bipush (-2), 2) := by decide +kernel
theorem dX7_take__63 : decode cX7_take_ 63 = .ok (.ireturn, 1) := by decide +kernel
theorem dX7_undo_0 : decode cX7_undo 0 = .ok (.aload_n 0, 1) := by decide +kernel
theorem dX7_undo_1 : decode cX7_undo 1 = .ok (.iconst 0, 1) := by decide +kernel
theorem dX7_undo_2 : decode cX7_undo 2 = .ok (.putfield 32, 3) := by decide +kernel
theorem dX7_undo_5 : decode cX7_undo 5 = .ok (.aload_n 0, 1) := by decide +kernel
theorem dX7_undo_6 : decode cX7_undo 6 = .ok (.getfield 105, 3) := by decide +kernel
theorem dX7_undo_9 : decode cX7_undo 9 = .ok (.ifCond .ne 6, 3) := by decide +kernel
theorem dX7_undo_12 : decode cX7_undo 12 = .ok (.bipush (-2), 2) := by decide +kernel
theorem dX7_undo_14 : decode cX7_undo 14 = .ok (.ireturn, 1) := by decide +kernel
theorem dX7_undo_15 : decode cX7_undo 15 = .ok (.aload_n 0, 1) := by decide +kernel
theorem dX7_undo_16 : decode cX7_undo 16 = .ok (.dup, 1) := by decide +kernel
theorem dX7_undo_17 : decode cX7_undo 17 = .ok (.getfield 105, 3) := by decide +kernel
theorem dX7_undo_20 : decode cX7_undo 20 = .ok (.iconst 1, 1) := by decide +kernel
theorem dX7_undo_21 : decode cX7_undo 21 = .ok (.isub, 1) := by decide +kernel
theorem dX7_undo_22 : decode cX7_undo 22 = .ok (.putfield 105, 3) := by decide +kernel
theorem dX7_undo_25 : decode cX7_undo 25 = .ok (.iconst 0, 1) := by decide +kernel
theorem dX7_undo_26 : decode cX7_undo 26 = .ok (.istore_n 1, 1) := by decide +kernel
theorem dX7_undo_27 : decode cX7_undo 27 = .ok (.iload_n 1, 1) := by decide +kernel
theorem dX7_undo_28 : decode cX7_undo 28 = .ok (.bipush 81, 2) := by decide +kernel
theorem dX7_undo_30 : decode cX7_undo 30 = .ok (.if_icmp .ge 29, 3) := by decide +kernel
theorem dX7_undo_33 : decode cX7_undo 33 = .ok (.aload_n 0, 1) := by decide +kernel
theorem dX7_undo_34 : decode cX7_undo 34 = .ok (.getfield 7, 3) := by decide +kernel
theorem dX7_undo_37 : decode cX7_undo 37 = .ok (.iload_n 1, 1) := by decide +kernel
theorem dX7_undo_38 : decode cX7_undo 38 = .ok (.aload_n 0, 1) := by decide +kernel
theorem dX7_undo_39 : decode cX7_undo 39 = .ok (.getfield 16, 3) := by decide +kernel
theorem dX7_undo_42 : decode cX7_undo 42 = .ok (.bipush 81, 2) := by decide +kernel
theorem dX7_undo_44 : decode cX7_undo 44 = .ok (.aload_n 0, 1) := by decide +kernel
theorem dX7_undo_45 : decode cX7_undo 45 = .ok (.getfield 105, 3) := by decide +kernel
theorem dX7_undo_48 : decode cX7_undo 48 = .ok (.imul, 1) := by decide +kernel
theorem dX7_undo_49 : decode cX7_undo 49 = .ok (.iload_n 1, 1) := by decide +kernel
theorem dX7_undo_50 : decode cX7_undo 50 = .ok (.iadd, 1) := by decide +kernel
theorem dX7_undo_51 : decode cX7_undo 51 = .ok (.iaload, 1) := by decide +kernel
theorem dX7_undo_52 : decode cX7_undo 52 = .ok (.iastore, 1) := by decide +kernel
theorem dX7_undo_53 : decode cX7_undo 53 = .ok (.iinc 1 1, 3) := by decide +kernel
theorem dX7_undo_56 : decode cX7_undo 56 = .ok (.goto (-29), 3) := by decide +kernel
theorem dX7_undo_59 : decode cX7_undo 59 = .ok (.aload_n 0, 1) := by decide +kernel
theorem dX7_undo_60 : decode cX7_undo 60 = .ok (.getfield 105, 3) := by decide +kernel
theorem dX7_undo_63 : decode cX7_undo 63 = .ok (.ireturn, 1) := by decide +kernel
theorem dX7_undoDepth_0 : decode cX7_undoDepth 0 = .ok (.aload_n 0, 1) := by decide +kernel
theorem dX7_undoDepth_1 : decode cX7_undoDepth 1 = .ok (.iconst 0, 1) := by decide +kernel
theorem dX7_undoDepth_2 : decode cX7_undoDepth 2 = .ok (.putfield 32, 3) := by decide +kernel
theorem dX7_undoDepth_5 : decode cX7_undoDepth 5 = .ok (.aload_n 0, 1) := by decide +kernel
theorem dX7_undoDepth_6 : decode cX7_undoDepth 6 = .ok (.getfield 105, 3) := by decide +kernel
theorem dX7_undoDepth_9 : decode cX7_undoDepth 9 = .ok (.ireturn, 1) := by decide +kernel
theorem dX7_userOf_0 : decode cX7_userOf 0 = .ok (.iconst 0, 1) := by decide +kernel
theorem dX7_userOf_1 : decode cX7_userOf 1 = .ok (.istore_n 3, 1) := by decide +kernel
theorem dX7_userOf_2 : decode cX7_userOf 2 = .ok (.iload_n 3, 1) := by decide +kernel
theorem dX7_userOf_3 : decode cX7_userOf 3 = .ok (.aload_n 0, 1) := by decide +kernel
theorem dX7_userOf_4 : decode cX7_userOf 4 = .ok (.getfield 7, 3) := by decide +kernel
theorem dX7_userOf_7 : decode cX7_userOf 7 = .ok (.iconst 0, 1) := by decide +kernel
theorem dX7_userOf_8 : decode cX7_userOf 8 = .ok (.iaload, 1) := by decide +kernel
theorem dX7_userOf_9 : decode cX7_userOf 9 = .ok (.if_icmp .ge 30, 3) := by decide +kernel
theorem dX7_userOf_12 : decode cX7_userOf 12 = .ok (.aload_n 0, 1) := by decide +kernel
theorem dX7_userOf_13 : decode cX7_userOf 13 = .ok (.iload_n 3, 1) := by decide +kernel
theorem dX7_userOf_14 : decode cX7_userOf 14 = .ok (.iconst 2, 1) := by decide +kernel
theorem dX7_userOf_15 : decode cX7_userOf 15 = .ok (.invokevirtual 119, 3) := by decide +kernel
theorem dX7_userOf_18 : decode cX7_userOf 18 = .ok (.ifCond .eq 15, 3) := by decide +kernel
theorem dX7_userOf_21 : decode cX7_userOf 21 = .ok (.aload_n 0, 1) := by decide +kernel
theorem dX7_userOf_22 : decode cX7_userOf 22 = .ok (.iload_n 3, 1) := by decide +kernel
theorem dX7_userOf_23 : decode cX7_userOf 23 = .ok (.iload_n 1, 1) := by decide +kernel
theorem dX7_userOf_24 : decode cX7_userOf 24 = .ok (.iload_n 2, 1) := by decide +kernel
theorem dX7_userOf_25 : decode cX7_userOf 25 = .ok (.invokevirtual 122, 3) := by decide +kernel
theorem dX7_userOf_28 : decode cX7_userOf 28 = .ok (.ifCond .eq 5, 3) := by decide +kernel
theorem dX7_userOf_31 : decode cX7_userOf 31 = .ok (.iload_n 3, 1) := by decide +kernel
theorem dX7_userOf_32 : decode cX7_userOf 32 = .ok (.ireturn, 1) := by decide +kernel
theorem dX7_userOf_33 : decode cX7_userOf 33 = .ok (.iinc 3 1, 3) := by decide +kernel
theorem dX7_userOf_36 : decode cX7_userOf 36 = .ok (.goto (-34), 3) := by decide +kernel
theorem dX7_userOf_39 : decode cX7_userOf 39 = .ok (.bipush (-9), 2) := by decide +kernel
theorem dX7_userOf_41 : decode cX7_userOf 41 = .ok (.ireturn, 1) := by decide +kernel
theorem dX7_violationCount_0 : decode cX7_violationCount 0 = .ok (.aload_n 0, 1) := by decide +kernel
theorem dX7_violationCount_1 : decode cX7_violationCount 1 = .ok (.iconst 0, 1) := by decide +kernel
theorem dX7_violationCount_2 : decode cX7_violationCount 2 = .ok (.putfield 32, 3) := by decide +kernel
theorem dX7_violationCount_5 : decode cX7_violationCount 5 = .ok (.aload_n 0, 1) := by decide +kernel
theorem dX7_violationCount_6 : decode cX7_violationCount 6 = .ok (.iconst 0, 1) := by decide +kernel
theorem dX7_violationCount_7 : decode cX7_violationCount 7 = .ok (.invokevirtual 163, 3) := by decide +kernel
theorem dX7_violationCount_10 : decode cX7_violationCount 10 = .ok (.aload_n 0, 1) := by decide +kernel
theorem dX7_violationCount_11 : decode cX7_violationCount 11 = .ok (.invokevirtual 191, 3) := by decide +kernel
theorem dX7_violationCount_14 : decode cX7_violationCount 14 = .ok (.ireturn, 1) := by decide +kernel
theorem dX7_violations_0 : decode cX7_violations 0 = .ok (.iconst 0, 1) := by decide +kernel
theorem dX7_violations_1 : decode cX7_violations 1 = .ok (.istore_n 1, 1) := by decide +kernel
theorem dX7_violations_2 : decode cX7_violations 2 = .ok (.iconst 0, 1) := by decide +kernel
theorem dX7_violations_3 : decode cX7_violations 3 = .ok (.istore_n 2, 1) := by decide +kernel
theorem dX7_violations_4 : decode cX7_violations 4 = .ok (.iload_n 2, 1) := by decide +kernel
theorem dX7_violations_5 : decode cX7_violations 5 = .ok (.aload_n 0, 1) := by decide +kernel
theorem dX7_violations_6 : decode cX7_violations 6 = .ok (.getfield 7, 3) := by decide +kernel
theorem dX7_violations_9 : decode cX7_violations 9 = .ok (.bipush 62, 2) := by decide +kernel
theorem dX7_violations_11 : decode cX7_violations 11 = .ok (.iaload, 1) := by decide +kernel
theorem dX7_violations_12 : decode cX7_violations 12 = .ok (.if_icmp .ge 55, 3) := by decide +kernel
theorem dX7_violations_15 : decode cX7_violations 15 = .ok (.iload_n 1, 1) := by decide +kernel
theorem dX7_violations_16 : decode cX7_violations 16 = .ok (.aload_n 0, 1) := by decide +kernel
theorem dX7_violations_17 : decode cX7_violations 17 = .ok (.getfield 22, 3) := by decide +kernel
theorem dX7_violations_20 : decode cX7_violations 20 = .ok (.bipush 10, 2) := by decide +kernel
theorem dX7_violations_22 : decode cX7_violations 22 = .ok (.aload_n 0, 1) := by decide +kernel
theorem dX7_violations_23 : decode cX7_violations 23 = .ok (.getfield 7, 3) := by decide +kernel
theorem dX7_violations_26 : decode cX7_violations 26 = .ok (.bipush 63, 2) := by decide +kernel
theorem dX7_violations_28 : decode cX7_violations 28 = .ok (.iconst 2, 1) := by decide +kernel
theorem dX7_violations_29 : decode cX7_violations 29 = .ok (.iload_n 2, 1) := by decide +kernel
theorem dX7_violations_30 : decode cX7_violations 30 = .ok (.imul, 1) := by decide +kernel
theorem dX7_violations_31 : decode cX7_violations 31 = .ok (.iadd, 1) := by decide +kernel
theorem dX7_violations_32 : decode cX7_violations 32 = .ok (.iaload, 1) := by decide +kernel
theorem dX7_violations_33 : decode cX7_violations 33 = .ok (.imul, 1) := by decide +kernel
theorem dX7_violations_34 : decode cX7_violations 34 = .ok (.aload_n 0, 1) := by decide +kernel
theorem dX7_violations_35 : decode cX7_violations 35 = .ok (.getfield 7, 3) := by decide +kernel
theorem dX7_violations_38 : decode cX7_violations 38 = .ok (.bipush 63, 2) := by decide +kernel
theorem dX7_violations_40 : decode cX7_violations 40 = .ok (.iconst 2, 1) := by decide +kernel
theorem dX7_violations_41 : decode cX7_violations 41 = .ok (.iload_n 2, 1) := by decide +kernel
theorem dX7_violations_42 : decode cX7_violations 42 = .ok (.imul, 1) := by decide +kernel
theorem dX7_violations_43 : decode cX7_violations 43 = .ok (.iadd, 1) := by decide +kernel
theorem dX7_violations_44 : decode cX7_violations 44 = .ok (.iconst 1, 1) := by decide +kernel
theorem dX7_violations_45 : decode cX7_violations 45 = .ok (.iadd, 1) := by decide +kernel
theorem dX7_violations_46 : decode cX7_violations 46 = .ok (.iaload, 1) := by decide +kernel
theorem dX7_violations_47 : decode cX7_violations 47 = .ok (.iadd, 1) := by decide +kernel
theorem dX7_violations_48 : decode cX7_violations 48 = .ok (.iaload, 1) := by decide +kernel
theorem dX7_violations_49 : decode cX7_violations 49 = .ok (.bipush (-9), 2) := by decide +kernel
theorem dX7_violations_51 : decode cX7_violations 51 = .ok (.if_icmp .ne 7, 3) := by decide +kernel
theorem dX7_violations_54 : decode cX7_violations 54 = .ok (.iconst 0, 1) := by decide +kernel
theorem dX7_violations_55 : decode cX7_violations 55 = .ok (.goto 4, 3) := by decide +kernel
theorem dX7_violations_58 : decode cX7_violations 58 = .ok (.iconst 1, 1) := by decide +kernel
theorem dX7_violations_59 : decode cX7_violations 59 = .ok (.iadd, 1) := by decide +kernel
theorem dX7_violations_60 : decode cX7_violations 60 = .ok (.istore_n 1, 1) := by decide +kernel
theorem dX7_violations_61 : decode cX7_violations 61 = .ok (.iinc 2 1, 3) := by decide +kernel
theorem dX7_violations_64 : decode cX7_violations 64 = .ok (.goto (-60), 3) := by decide +kernel
theorem dX7_violations_67 : decode cX7_violations 67 = .ok (.iload_n 1, 1) := by decide +kernel
theorem dX7_violations_68 : decode cX7_violations 68 = .ok (.ireturn, 1) := by decide +kernel
theorem dJ0_charAt_5068e_0 : decode cJ0_charAt_5068e 0 = .ok (.aload_n 0, 1) := by decide +kernel
theorem dJ0_charAt_5068e_1 : decode cJ0_charAt_5068e 1 = .ok (.invokevirtual 492, 3) := by decide +kernel
theorem dJ0_charAt_5068e_4 : decode cJ0_charAt_5068e 4 = .ok (.ifCond .eq 12, 3) := by decide +kernel
theorem dJ0_charAt_5068e_7 : decode cJ0_charAt_5068e 7 = .ok (.aload_n 0, 1) := by decide +kernel
theorem dJ0_charAt_5068e_8 : decode cJ0_charAt_5068e 8 = .ok (.getfield 9, 3) := by decide +kernel
theorem dJ0_charAt_5068e_11 : decode cJ0_charAt_5068e 11 = .ok (.iload_n 1, 1) := by decide +kernel
theorem dJ0_charAt_5068e_12 : decode cJ0_charAt_5068e 12 = .ok (.invokestatic 495, 3) := by decide +kernel
theorem dJ0_charAt_5068e_15 : decode cJ0_charAt_5068e 15 = .ok (.ireturn, 1) := by decide +kernel
theorem dJ0_charAt_5068e_16 : decode cJ0_charAt_5068e 16 = .ok (.aload_n 0, 1) := by decide +kernel
theorem dJ0_charAt_5068e_17 : decode cJ0_charAt_5068e 17 = .ok (.getfield 9, 3) := by decide +kernel
theorem dJ0_charAt_5068e_20 : decode cJ0_charAt_5068e 20 = .ok (.iload_n 1, 1) := by decide +kernel
theorem dJ0_charAt_5068e_21 : decode cJ0_charAt_5068e 21 = .ok (.invokestatic 498, 3) := by decide +kernel
theorem dJ0_charAt_5068e_24 : decode cJ0_charAt_5068e 24 = .ok (.ireturn, 1) := by decide +kernel
theorem dJ0_checkIndex_df160_0 : decode cJ0_checkIndex_df160 0 = .ok (.iload_n 0, 1) := by decide +kernel
theorem dJ0_checkIndex_df160_1 : decode cJ0_checkIndex_df160 1 = .ok (.iload_n 1, 1) := by decide +kernel
theorem dJ0_checkIndex_df160_2 : decode cJ0_checkIndex_df160 2 = .ok (.getstatic 1053, 3) := by decide +kernel
theorem dJ0_checkIndex_df160_5 : decode cJ0_checkIndex_df160 5 = .ok (.invokestatic 1059, 3) := by decide +kernel
theorem dJ0_checkIndex_df160_8 : decode cJ0_checkIndex_df160 8 = .ok (.pop, 1) := by decide +kernel
theorem dJ0_checkIndex_df160_9 : decode cJ0_checkIndex_df160 9 = .ok (.return_, 1) := by decide +kernel
theorem dJ0_coder_7d493_0 : decode cJ0_coder_7d493 0 = .ok (.getstatic 38, 3) := by decide +kernel
theorem dJ0_coder_7d493_3 : decode cJ0_coder_7d493 3 = .ok (.ifCond .eq 10, 3) := by decide +kernel
theorem dJ0_coder_7d493_6 : decode cJ0_coder_7d493 6 = .ok (.aload_n 0, 1) := by decide +kernel
theorem dJ0_coder_7d493_7 : decode cJ0_coder_7d493 7 = .ok (.getfield 15, 3) := by decide +kernel
theorem dJ0_coder_7d493_10 : decode cJ0_coder_7d493 10 = .ok (.goto 4, 3) := by decide +kernel
theorem dJ0_coder_7d493_13 : decode cJ0_coder_7d493 13 = .ok (.iconst 1, 1) := by decide +kernel
theorem dJ0_coder_7d493_14 : decode cJ0_coder_7d493 14 = .ok (.ireturn, 1) := by decide +kernel
theorem dJ0_isLatin1_aae02_0 : decode cJ0_isLatin1_aae02 0 = .ok (.getstatic 38, 3) := by decide +kernel
theorem dJ0_isLatin1_aae02_3 : decode cJ0_isLatin1_aae02 3 = .ok (.ifCond .eq 14, 3) := by decide +kernel
theorem dJ0_isLatin1_aae02_6 : decode cJ0_isLatin1_aae02 6 = .ok (.aload_n 0, 1) := by decide +kernel
theorem dJ0_isLatin1_aae02_7 : decode cJ0_isLatin1_aae02 7 = .ok (.getfield 15, 3) := by decide +kernel
theorem dJ0_isLatin1_aae02_10 : decode cJ0_isLatin1_aae02 10 = .ok (.ifCond .ne 7, 3) := by decide +kernel
theorem dJ0_isLatin1_aae02_13 : decode cJ0_isLatin1_aae02 13 = .ok (.iconst 1, 1) := by decide +kernel
theorem dJ0_isLatin1_aae02_14 : decode cJ0_isLatin1_aae02 14 = .ok (.goto 4, 3) := by decide +kernel
theorem dJ0_isLatin1_aae02_17 : decode cJ0_isLatin1_aae02 17 = .ok (.iconst 0, 1) := by decide +kernel
theorem dJ0_isLatin1_aae02_18 : decode cJ0_isLatin1_aae02 18 = .ok (.ireturn, 1) := by decide +kernel
theorem dJ0_length_8abf5_0 : decode cJ0_length_8abf5 0 = .ok (.aload_n 0, 1) := by decide +kernel
theorem dJ0_length_8abf5_1 : decode cJ0_length_8abf5 1 = .ok (.getfield 9, 3) := by decide +kernel
theorem dJ0_length_8abf5_4 : decode cJ0_length_8abf5 4 = .ok (.arraylength, 1) := by decide +kernel
theorem dJ0_length_8abf5_5 : decode cJ0_length_8abf5 5 = .ok (.aload_n 0, 1) := by decide +kernel
theorem dJ0_length_8abf5_6 : decode cJ0_length_8abf5 6 = .ok (.invokevirtual 335, 3) := by decide +kernel
theorem dJ0_length_8abf5_9 : decode cJ0_length_8abf5 9 = .ok (.ishr, 1) := by decide +kernel
theorem dJ0_length_8abf5_10 : decode cJ0_length_8abf5 10 = .ok (.ireturn, 1) := by decide +kernel
theorem dJ1_charAt_3b067_0 : decode cJ1_charAt_3b067 0 = .ok (.iload_n 1, 1) := by decide +kernel
theorem dJ1_charAt_3b067_1 : decode cJ1_charAt_3b067 1 = .ok (.aload_n 0, 1) := by decide +kernel
theorem dJ1_charAt_3b067_2 : decode cJ1_charAt_3b067 2 = .ok (.arraylength, 1) := by decide +kernel
theorem dJ1_charAt_3b067_3 : decode cJ1_charAt_3b067 3 = .ok (.invokestatic 9, 3) := by decide +kernel
theorem dJ1_charAt_3b067_6 : decode cJ1_charAt_3b067 6 = .ok (.aload_n 0, 1) := by decide +kernel
theorem dJ1_charAt_3b067_7 : decode cJ1_charAt_3b067 7 = .ok (.iload_n 1, 1) := by decide +kernel
theorem dJ1_charAt_3b067_8 : decode cJ1_charAt_3b067 8 = .ok (.baload, 1) := by decide +kernel
theorem dJ1_charAt_3b067_9 : decode cJ1_charAt_3b067 9 = .ok (.sipush 255, 3) := by decide +kernel
theorem dJ1_charAt_3b067_12 : decode cJ1_charAt_3b067 12 = .ok (.iand, 1) := by decide +kernel
theorem dJ1_charAt_3b067_13 : decode cJ1_charAt_3b067 13 = .ok (.i2c, 1) := by decide +kernel
theorem dJ1_charAt_3b067_14 : decode cJ1_charAt_3b067 14 = .ok (.ireturn, 1) := by decide +kernel
theorem dJ2_charAt_3b067_0 : decode cJ2_charAt_3b067 0 = .ok (.iload_n 1, 1) := by decide +kernel
theorem dJ2_charAt_3b067_1 : decode cJ2_charAt_3b067 1 = .ok (.aload_n 0, 1) := by decide +kernel
theorem dJ2_charAt_3b067_2 : decode cJ2_charAt_3b067 2 = .ok (.invokestatic 67, 3) := by decide +kernel
theorem dJ2_charAt_3b067_5 : decode cJ2_charAt_3b067 5 = .ok (.aload_n 0, 1) := by decide +kernel
theorem dJ2_charAt_3b067_6 : decode cJ2_charAt_3b067 6 = .ok (.iload_n 1, 1) := by decide +kernel
theorem dJ2_charAt_3b067_7 : decode cJ2_charAt_3b067 7 = .ok (.invokestatic 71, 3) := by decide +kernel
theorem dJ2_charAt_3b067_10 : decode cJ2_charAt_3b067 10 = .ok (.ireturn, 1) := by decide +kernel
theorem dJ2_checkIndex_2214a_0 : decode cJ2_checkIndex_2214a 0 = .ok (.iload_n 0, 1) := by decide +kernel
theorem dJ2_checkIndex_2214a_1 : decode cJ2_checkIndex_2214a 1 = .ok (.aload_n 1, 1) := by decide +kernel
theorem dJ2_checkIndex_2214a_2 : decode cJ2_checkIndex_2214a 2 = .ok (.invokestatic 48, 3) := by decide +kernel
theorem dJ2_checkIndex_2214a_5 : decode cJ2_checkIndex_2214a 5 = .ok (.invokestatic 414, 3) := by decide +kernel
theorem dJ2_checkIndex_2214a_8 : decode cJ2_checkIndex_2214a 8 = .ok (.return_, 1) := by decide +kernel
theorem dJ2_getChar_3b067_0 : decode cJ2_getChar_3b067 0 = .ok (.getstatic 44, 3) := by decide +kernel
theorem dJ2_getChar_3b067_3 : decode cJ2_getChar_3b067 3 = .ok (.ifCond .ne 25, 3) := by decide +kernel
theorem dJ2_getChar_3b067_6 : decode cJ2_getChar_3b067 6 = .ok (.iload_n 1, 1) := by decide +kernel
theorem dJ2_getChar_3b067_7 : decode cJ2_getChar_3b067 7 = .ok (.ifCond .lt 11, 3) := by decide +kernel
theorem dJ2_getChar_3b067_10 : decode cJ2_getChar_3b067 10 = .ok (.iload_n 1, 1) := by decide +kernel
theorem dJ2_getChar_3b067_11 : decode cJ2_getChar_3b067 11 = .ok (.aload_n 0, 1) := by decide +kernel
theorem dJ2_getChar_3b067_12 : decode cJ2_getChar_3b067 12 = .ok (.invokestatic 48, 3) := by decide +kernel
theorem dJ2_getChar_3b067_15 : decode cJ2_getChar_3b067 15 = .ok (.if_icmp .lt 13, 3) := by decide +kernel
theorem dJ2_getChar_3b067_18 : decode cJ2_getChar_3b067 18 = .ok (.new 52, 3) := by decide +kernel
theorem dJ2_getChar_3b067_21 : decode cJ2_getChar_3b067 21 = .ok (.dup, 1) := by decide +kernel
theorem dJ2_getChar_3b067_22 : decode cJ2_getChar_3b067 22 = .ok (.ldc 54, 2) := by decide +kernel
theorem dJ2_getChar_3b067_24 : decode cJ2_getChar_3b067 24 = .ok (.invokespecial 56, 3) := by decide +kernel
theorem dJ2_getChar_3b067_27 : decode cJ2_getChar_3b067 27 = .ok (.athrow, 1) := by decide +kernel
theorem dJ2_getChar_3b067_28 : decode cJ2_getChar_3b067 28 = .ok (.iload_n 1, 1) := by decide +kernel
theorem dJ2_getChar_3b067_29 : decode cJ2_getChar_3b067 29 = .ok (.iconst 1, 1) := by decide +kernel
theorem dJ2_getChar_3b067_30 : decode cJ2_getChar_3b067 30 = .ok (.ishl, 1) := by decide +kernel
theorem dJ2_getChar_3b067_31 : decode cJ2_getChar_3b067 31 = .ok (.istore_n 1, 1) := by decide +kernel
theorem dJ2_getChar_3b067_32 : decode cJ2_getChar_3b067 32 = .ok (.aload_n 0, 1) := by decide +kernel
theorem dJ2_getChar_3b067_33 : decode cJ2_getChar_3b067 33 = .ok (.iload_n 1, 1) := by decide +kernel
theorem dJ2_getChar_3b067_34 : decode cJ2_getChar_3b067 34 = .ok (.iinc 1 1, 3) := by decide +kernel
theorem dJ2_getChar_3b067_37 : decode cJ2_getChar_3b067 37 = .ok (.baload, 1) := by decide +kernel
theorem dJ2_getChar_3b067_38 : decode cJ2_getChar_3b067 38 = .ok (.sipush 255, 3) := by decide +kernel
theorem dJ2_getChar_3b067_41 : decode cJ2_getChar_3b067 41 = .ok (.iand, 1) := by decide +kernel
theorem dJ2_getChar_3b067_42 : decode cJ2_getChar_3b067 42 = .ok (.getstatic 59, 3) := by decide +kernel
theorem dJ2_getChar_3b067_45 : decode cJ2_getChar_3b067 45 = .ok (.ishl, 1) := by decide +kernel
theorem dJ2_getChar_3b067_46 : decode cJ2_getChar_3b067 46 = .ok (.aload_n 0, 1) := by decide +kernel
theorem dJ2_getChar_3b067_47 : decode cJ2_getChar_3b067 47 = .ok (.iload_n 1, 1) := by decide +kernel
theorem dJ2_getChar_3b067_48 : decode cJ2_getChar_3b067 48 = .ok (.baload, 1) := by decide +kernel
theorem dJ2_getChar_3b067_49 : decode cJ2_getChar_3b067 49 = .ok (.sipush 255, 3) := by decide +kernel
theorem dJ2_getChar_3b067_52 : decode cJ2_getChar_3b067 52 = .ok (.iand, 1) := by decide +kernel
theorem dJ2_getChar_3b067_53 : decode cJ2_getChar_3b067 53 = .ok (.getstatic 63, 3) := by decide +kernel
theorem dJ2_getChar_3b067_56 : decode cJ2_getChar_3b067 56 = .ok (.ishl, 1) := by decide +kernel
theorem dJ2_getChar_3b067_57 : decode cJ2_getChar_3b067 57 = .ok (.ior, 1) := by decide +kernel
theorem dJ2_getChar_3b067_58 : decode cJ2_getChar_3b067 58 = .ok (.i2c, 1) := by decide +kernel
theorem dJ2_getChar_3b067_59 : decode cJ2_getChar_3b067 59 = .ok (.ireturn, 1) := by decide +kernel
theorem dJ2_length_9d52b_0 : decode cJ2_length_9d52b 0 = .ok (.aload_n 0, 1) := by decide +kernel
theorem dJ2_length_9d52b_1 : decode cJ2_length_9d52b 1 = .ok (.arraylength, 1) := by decide +kernel
theorem dJ2_length_9d52b_2 : decode cJ2_length_9d52b 2 = .ok (.iconst 1, 1) := by decide +kernel
theorem dJ2_length_9d52b_3 : decode cJ2_length_9d52b 3 = .ok (.ishr, 1) := by decide +kernel
theorem dJ2_length_9d52b_4 : decode cJ2_length_9d52b 4 = .ok (.ireturn, 1) := by decide +kernel
theorem dJ3_checkIndex_8e157_0 : decode cJ3_checkIndex_8e157 0 = .ok (.iload_n 0, 1) := by decide +kernel
theorem dJ3_checkIndex_8e157_1 : decode cJ3_checkIndex_8e157 1 = .ok (.ifCond .lt 8, 3) := by decide +kernel
theorem dJ3_checkIndex_8e157_4 : decode cJ3_checkIndex_8e157 4 = .ok (.iload_n 0, 1) := by decide +kernel
theorem dJ3_checkIndex_8e157_5 : decode cJ3_checkIndex_8e157 5 = .ok (.iload_n 1, 1) := by decide +kernel
theorem dJ3_checkIndex_8e157_6 : decode cJ3_checkIndex_8e157 6 = .ok (.if_icmp .lt 10, 3) := by decide +kernel
theorem dJ3_checkIndex_8e157_9 : decode cJ3_checkIndex_8e157 9 = .ok (.aload_n 2, 1) := by decide +kernel
theorem dJ3_checkIndex_8e157_10 : decode cJ3_checkIndex_8e157 10 = .ok (.iload_n 0, 1) := by decide +kernel
theorem dJ3_checkIndex_8e157_11 : decode cJ3_checkIndex_8e157 11 = .ok (.iload_n 1, 1) := by decide +kernel
theorem dJ3_checkIndex_8e157_12 : decode cJ3_checkIndex_8e157 12 = .ok (.invokestatic 95, 3) := by decide +kernel
theorem dJ3_checkIndex_8e157_15 : decode cJ3_checkIndex_8e157 15 = .ok (.athrow, 1) := by decide +kernel
theorem dJ3_checkIndex_8e157_16 : decode cJ3_checkIndex_8e157 16 = .ok (.iload_n 0, 1) := by decide +kernel
theorem dJ3_checkIndex_8e157_17 : decode cJ3_checkIndex_8e157 17 = .ok (.ireturn, 1) := by decide +kernel
theorem dJ6_bitCount_0f7a4_0 : decode cJ6_bitCount_0f7a4 0 = .ok (.iload_n 0, 1) := by decide +kernel
theorem dJ6_bitCount_0f7a4_1 : decode cJ6_bitCount_0f7a4 1 = .ok (.iload_n 0, 1) := by decide +kernel
theorem dJ6_bitCount_0f7a4_2 : decode cJ6_bitCount_0f7a4 2 = .ok (.iconst 1, 1) := by decide +kernel
theorem dJ6_bitCount_0f7a4_3 : decode cJ6_bitCount_0f7a4 3 = .ok (.iushr, 1) := by decide +kernel
theorem dJ6_bitCount_0f7a4_4 : decode cJ6_bitCount_0f7a4 4 = .ok (.ldc_w 265, 3) := by decide +kernel
theorem dJ6_bitCount_0f7a4_7 : decode cJ6_bitCount_0f7a4 7 = .ok (.iand, 1) := by decide +kernel
theorem dJ6_bitCount_0f7a4_8 : decode cJ6_bitCount_0f7a4 8 = .ok (.isub, 1) := by decide +kernel
theorem dJ6_bitCount_0f7a4_9 : decode cJ6_bitCount_0f7a4 9 = .ok (.istore_n 0, 1) := by decide +kernel
theorem dJ6_bitCount_0f7a4_10 : decode cJ6_bitCount_0f7a4 10 = .ok (.iload_n 0, 1) := by decide +kernel
theorem dJ6_bitCount_0f7a4_11 : decode cJ6_bitCount_0f7a4 11 = .ok (.ldc_w 266, 3) := by decide +kernel
theorem dJ6_bitCount_0f7a4_14 : decode cJ6_bitCount_0f7a4 14 = .ok (.iand, 1) := by decide +kernel
theorem dJ6_bitCount_0f7a4_15 : decode cJ6_bitCount_0f7a4 15 = .ok (.iload_n 0, 1) := by decide +kernel
theorem dJ6_bitCount_0f7a4_16 : decode cJ6_bitCount_0f7a4 16 = .ok (.iconst 2, 1) := by decide +kernel
theorem dJ6_bitCount_0f7a4_17 : decode cJ6_bitCount_0f7a4 17 = .ok (.iushr, 1) := by decide +kernel
theorem dJ6_bitCount_0f7a4_18 : decode cJ6_bitCount_0f7a4 18 = .ok (.ldc_w 266, 3) := by decide +kernel
theorem dJ6_bitCount_0f7a4_21 : decode cJ6_bitCount_0f7a4 21 = .ok (.iand, 1) := by decide +kernel
theorem dJ6_bitCount_0f7a4_22 : decode cJ6_bitCount_0f7a4 22 = .ok (.iadd, 1) := by decide +kernel
theorem dJ6_bitCount_0f7a4_23 : decode cJ6_bitCount_0f7a4 23 = .ok (.istore_n 0, 1) := by decide +kernel
theorem dJ6_bitCount_0f7a4_24 : decode cJ6_bitCount_0f7a4 24 = .ok (.iload_n 0, 1) := by decide +kernel
theorem dJ6_bitCount_0f7a4_25 : decode cJ6_bitCount_0f7a4 25 = .ok (.iload_n 0, 1) := by decide +kernel
theorem dJ6_bitCount_0f7a4_26 : decode cJ6_bitCount_0f7a4 26 = .ok (.iconst 4, 1) := by decide +kernel
theorem dJ6_bitCount_0f7a4_27 : decode cJ6_bitCount_0f7a4 27 = .ok (.iushr, 1) := by decide +kernel
theorem dJ6_bitCount_0f7a4_28 : decode cJ6_bitCount_0f7a4 28 = .ok (.iadd, 1) := by decide +kernel
theorem dJ6_bitCount_0f7a4_29 : decode cJ6_bitCount_0f7a4 29 = .ok (.ldc_w 267, 3) := by decide +kernel
theorem dJ6_bitCount_0f7a4_32 : decode cJ6_bitCount_0f7a4 32 = .ok (.iand, 1) := by decide +kernel
theorem dJ6_bitCount_0f7a4_33 : decode cJ6_bitCount_0f7a4 33 = .ok (.istore_n 0, 1) := by decide +kernel
theorem dJ6_bitCount_0f7a4_34 : decode cJ6_bitCount_0f7a4 34 = .ok (.iload_n 0, 1) := by decide +kernel
theorem dJ6_bitCount_0f7a4_35 : decode cJ6_bitCount_0f7a4 35 = .ok (.iload_n 0, 1) := by decide +kernel
theorem dJ6_bitCount_0f7a4_36 : decode cJ6_bitCount_0f7a4 36 = .ok (.bipush 8, 2) := by decide +kernel
theorem dJ6_bitCount_0f7a4_38 : decode cJ6_bitCount_0f7a4 38 = .ok (.iushr, 1) := by decide +kernel
theorem dJ6_bitCount_0f7a4_39 : decode cJ6_bitCount_0f7a4 39 = .ok (.iadd, 1) := by decide +kernel
theorem dJ6_bitCount_0f7a4_40 : decode cJ6_bitCount_0f7a4 40 = .ok (.istore_n 0, 1) := by decide +kernel
theorem dJ6_bitCount_0f7a4_41 : decode cJ6_bitCount_0f7a4 41 = .ok (.iload_n 0, 1) := by decide +kernel
theorem dJ6_bitCount_0f7a4_42 : decode cJ6_bitCount_0f7a4 42 = .ok (.iload_n 0, 1) := by decide +kernel
theorem dJ6_bitCount_0f7a4_43 : decode cJ6_bitCount_0f7a4 43 = .ok (.bipush 16, 2) := by decide +kernel
theorem dJ6_bitCount_0f7a4_45 : decode cJ6_bitCount_0f7a4 45 = .ok (.iushr, 1) := by decide +kernel
theorem dJ6_bitCount_0f7a4_46 : decode cJ6_bitCount_0f7a4 46 = .ok (.iadd, 1) := by decide +kernel
theorem dJ6_bitCount_0f7a4_47 : decode cJ6_bitCount_0f7a4 47 = .ok (.istore_n 0, 1) := by decide +kernel
theorem dJ6_bitCount_0f7a4_48 : decode cJ6_bitCount_0f7a4 48 = .ok (.iload_n 0, 1) := by decide +kernel
theorem dJ6_bitCount_0f7a4_49 : decode cJ6_bitCount_0f7a4 49 = .ok (.bipush 63, 2) := by decide +kernel
theorem dJ6_bitCount_0f7a4_51 : decode cJ6_bitCount_0f7a4 51 = .ok (.iand, 1) := by decide +kernel
theorem dJ6_bitCount_0f7a4_52 : decode cJ6_bitCount_0f7a4 52 = .ok (.ireturn, 1) := by decide +kernel
theorem dJ7_fill_53178_0 : decode cJ7_fill_53178 0 = .ok (.iconst 0, 1) := by decide +kernel
theorem dJ7_fill_53178_1 : decode cJ7_fill_53178 1 = .ok (.istore_n 2, 1) := by decide +kernel
theorem dJ7_fill_53178_2 : decode cJ7_fill_53178 2 = .ok (.aload_n 0, 1) := by decide +kernel
theorem dJ7_fill_53178_3 : decode cJ7_fill_53178 3 = .ok (.arraylength, 1) := by decide +kernel
theorem dJ7_fill_53178_4 : decode cJ7_fill_53178 4 = .ok (.istore_n 3, 1) := by decide +kernel
theorem dJ7_fill_53178_5 : decode cJ7_fill_53178 5 = .ok (.iload_n 2, 1) := by decide +kernel
theorem dJ7_fill_53178_6 : decode cJ7_fill_53178 6 = .ok (.iload_n 3, 1) := by decide +kernel
theorem dJ7_fill_53178_7 : decode cJ7_fill_53178 7 = .ok (.if_icmp .ge 13, 3) := by decide +kernel
theorem dJ7_fill_53178_10 : decode cJ7_fill_53178 10 = .ok (.aload_n 0, 1) := by decide +kernel
theorem dJ7_fill_53178_11 : decode cJ7_fill_53178 11 = .ok (.iload_n 2, 1) := by decide +kernel
theorem dJ7_fill_53178_12 : decode cJ7_fill_53178 12 = .ok (.iload_n 1, 1) := by decide +kernel
theorem dJ7_fill_53178_13 : decode cJ7_fill_53178 13 = .ok (.iastore, 1) := by decide +kernel
theorem dJ7_fill_53178_14 : decode cJ7_fill_53178 14 = .ok (.iinc 2 1, 3) := by decide +kernel
theorem dJ7_fill_53178_17 : decode cJ7_fill_53178 17 = .ok (.goto (-12), 3) := by decide +kernel
theorem dJ7_fill_53178_20 : decode cJ7_fill_53178 20 = .ok (.return_, 1) := by decide +kernel
theorem dJ9_min_7cf53_0 : decode cJ9_min_7cf53 0 = .ok (.iload_n 0, 1) := by decide +kernel
theorem dJ9_min_7cf53_1 : decode cJ9_min_7cf53 1 = .ok (.iload_n 1, 1) := by decide +kernel
theorem dJ9_min_7cf53_2 : decode cJ9_min_7cf53 2 = .ok (.if_icmp .gt 7, 3) := by decide +kernel
theorem dJ9_min_7cf53_5 : decode cJ9_min_7cf53 5 = .ok (.iload_n 0, 1) := by decide +kernel
theorem dJ9_min_7cf53_6 : decode cJ9_min_7cf53 6 = .ok (.goto 4, 3) := by decide +kernel
theorem dJ9_min_7cf53_9 : decode cJ9_min_7cf53 9 = .ok (.iload_n 1, 1) := by decide +kernel
theorem dJ9_min_7cf53_10 : decode cJ9_min_7cf53 10 = .ok (.ireturn, 1) := by decide +kernel
end
section
theorem dL_law_0 : decode cL_law 0 = .ok (.new 7, 3) := by decide +kernel
theorem dL_law_3 : decode cL_law 3 = .ok (.dup, 1) := by decide +kernel
theorem dL_law_4 : decode cL_law 4 = .ok (.invokespecial 9, 3) := by decide +kernel
theorem dL_law_7 : decode cL_law 7 = .ok (.astore_n 1, 1) := by decide +kernel
theorem dL_law_8 : decode cL_law 8 = .ok (.new 10, 3) := by decide +kernel
theorem dL_law_11 : decode cL_law 11 = .ok (.dup, 1) := by decide +kernel
theorem dL_law_12 : decode cL_law 12 = .ok (.invokespecial 12, 3) := by decide +kernel
theorem dL_law_15 : decode cL_law 15 = .ok (.astore_n 2, 1) := by decide +kernel
theorem dL_law_16 : decode cL_law 16 = .ok (.iconst 0, 1) := by decide +kernel
theorem dL_law_17 : decode cL_law 17 = .ok (.istore_n 3, 1) := by decide +kernel
theorem dL_law_18 : decode cL_law 18 = .ok (.iload_n 3, 1) := by decide +kernel
theorem dL_law_19 : decode cL_law 19 = .ok (.aload_n 0, 1) := by decide +kernel
theorem dL_law_20 : decode cL_law 20 = .ok (.arraylength, 1) := by decide +kernel
theorem dL_law_21 : decode cL_law 21 = .ok (.iconst 4, 1) := by decide +kernel
theorem dL_law_22 : decode cL_law 22 = .ok (.isub, 1) := by decide +kernel
theorem dL_law_23 : decode cL_law 23 = .ok (.if_icmp .gt 931, 3) := by decide +kernel
theorem dL_law_26 : decode cL_law 26 = .ok (.aload_n 0, 1) := by decide +kernel
theorem dL_law_27 : decode cL_law 27 = .ok (.iload_n 3, 1) := by decide +kernel
theorem dL_law_28 : decode cL_law 28 = .ok (.iaload, 1) := by decide +kernel
theorem dL_law_29 : decode cL_law 29 = .ok (.bipush 31, 2) := by decide +kernel
theorem dL_law_31 : decode cL_law 31 = .ok (.iand, 1) := by decide +kernel
theorem dL_law_32 : decode cL_law 32 = .ok (.tableswitch 916 0 29 #[136, 159, 172, 185, 198, 221, 244, 277, 310, 343, 366, 379, 412, 445, 478, 511, 544, 557, 590, 623, 656, 669, 682, 725, 768, 811, 844, 857, 890, 903], 136) := by decide +kernel
theorem dL_law_168 : decode cL_law 168 = .ok (.aload_n 1, 1) := by decide +kernel
theorem dL_law_169 : decode cL_law 169 = .ok (.aload_n 0, 1) := by decide +kernel
theorem dL_law_170 : decode cL_law 170 = .ok (.iload_n 3, 1) := by decide +kernel
theorem dL_law_171 : decode cL_law 171 = .ok (.iconst 1, 1) := by decide +kernel
theorem dL_law_172 : decode cL_law 172 = .ok (.iadd, 1) := by decide +kernel
theorem dL_law_173 : decode cL_law 173 = .ok (.iaload, 1) := by decide +kernel
theorem dL_law_174 : decode cL_law 174 = .ok (.invokevirtual 13, 3) := by decide +kernel
theorem dL_law_177 : decode cL_law 177 = .ok (.aload_n 2, 1) := by decide +kernel
theorem dL_law_178 : decode cL_law 178 = .ok (.aload_n 0, 1) := by decide +kernel
theorem dL_law_179 : decode cL_law 179 = .ok (.iload_n 3, 1) := by decide +kernel
theorem dL_law_180 : decode cL_law 180 = .ok (.iconst 1, 1) := by decide +kernel
theorem dL_law_181 : decode cL_law 181 = .ok (.iadd, 1) := by decide +kernel
theorem dL_law_182 : decode cL_law 182 = .ok (.iaload, 1) := by decide +kernel
theorem dL_law_183 : decode cL_law 183 = .ok (.invokevirtual 17, 3) := by decide +kernel
theorem dL_law_186 : decode cL_law 186 = .ok (.if_icmp .eq 762, 3) := by decide +kernel
theorem dL_law_189 : decode cL_law 189 = .ok (.iconst 0, 1) := by decide +kernel
theorem dL_law_190 : decode cL_law 190 = .ok (.ireturn, 1) := by decide +kernel
theorem dL_law_191 : decode cL_law 191 = .ok (.aload_n 1, 1) := by decide +kernel
theorem dL_law_192 : decode cL_law 192 = .ok (.invokevirtual 18, 3) := by decide +kernel
theorem dL_law_195 : decode cL_law 195 = .ok (.aload_n 2, 1) := by decide +kernel
theorem dL_law_196 : decode cL_law 196 = .ok (.invokevirtual 22, 3) := by decide +kernel
theorem dL_law_199 : decode cL_law 199 = .ok (.if_icmp .eq 749, 3) := by decide +kernel
theorem dL_law_202 : decode cL_law 202 = .ok (.iconst 0, 1) := by decide +kernel
theorem dL_law_203 : decode cL_law 203 = .ok (.ireturn, 1) := by decide +kernel
theorem dL_law_204 : decode cL_law 204 = .ok (.aload_n 1, 1) := by decide +kernel
theorem dL_law_205 : decode cL_law 205 = .ok (.invokevirtual 23, 3) := by decide +kernel
theorem dL_law_208 : decode cL_law 208 = .ok (.aload_n 2, 1) := by decide +kernel
theorem dL_law_209 : decode cL_law 209 = .ok (.invokevirtual 26, 3) := by decide +kernel
theorem dL_law_212 : decode cL_law 212 = .ok (.if_icmp .eq 736, 3) := by decide +kernel
theorem dL_law_215 : decode cL_law 215 = .ok (.iconst 0, 1) := by decide +kernel
theorem dL_law_216 : decode cL_law 216 = .ok (.ireturn, 1) := by decide +kernel
theorem dL_law_217 : decode cL_law 217 = .ok (.aload_n 1, 1) := by decide +kernel
theorem dL_law_218 : decode cL_law 218 = .ok (.invokevirtual 27, 3) := by decide +kernel
theorem dL_law_221 : decode cL_law 221 = .ok (.aload_n 2, 1) := by decide +kernel
theorem dL_law_222 : decode cL_law 222 = .ok (.invokevirtual 30, 3) := by decide +kernel
theorem dL_law_225 : decode cL_law 225 = .ok (.if_icmp .eq 723, 3) := by decide +kernel
theorem dL_law_228 : decode cL_law 228 = .ok (.iconst 0, 1) := by decide +kernel
theorem dL_law_229 : decode cL_law 229 = .ok (.ireturn, 1) := by decide +kernel
theorem dL_law_230 : decode cL_law 230 = .ok (.aload_n 1, 1) := by decide +kernel
theorem dL_law_231 : decode cL_law 231 = .ok (.aload_n 0, 1) := by decide +kernel
theorem dL_law_232 : decode cL_law 232 = .ok (.iload_n 3, 1) := by decide +kernel
theorem dL_law_233 : decode cL_law 233 = .ok (.iconst 1, 1) := by decide +kernel
theorem dL_law_234 : decode cL_law 234 = .ok (.iadd, 1) := by decide +kernel
theorem dL_law_235 : decode cL_law 235 = .ok (.iaload, 1) := by decide +kernel
theorem dL_law_236 : decode cL_law 236 = .ok (.invokevirtual 31, 3) := by decide +kernel
theorem dL_law_239 : decode cL_law 239 = .ok (.aload_n 2, 1) := by decide +kernel
theorem dL_law_240 : decode cL_law 240 = .ok (.aload_n 0, 1) := by decide +kernel
theorem dL_law_241 : decode cL_law 241 = .ok (.iload_n 3, 1) := by decide +kernel
theorem dL_law_242 : decode cL_law 242 = .ok (.iconst 1, 1) := by decide +kernel
theorem dL_law_243 : decode cL_law 243 = .ok (.iadd, 1) := by decide +kernel
theorem dL_law_244 : decode cL_law 244 = .ok (.iaload, 1) := by decide +kernel
theorem dL_law_245 : decode cL_law 245 = .ok (.invokevirtual 34, 3) := by decide +kernel
theorem dL_law_248 : decode cL_law 248 = .ok (.if_icmp .eq 700, 3) := by decide +kernel
theorem dL_law_251 : decode cL_law 251 = .ok (.iconst 0, 1) := by decide +kernel
theorem dL_law_252 : decode cL_law 252 = .ok (.ireturn, 1) := by decide +kernel
theorem dL_law_253 : decode cL_law 253 = .ok (.aload_n 1, 1) := by decide +kernel
theorem dL_law_254 : decode cL_law 254 = .ok (.aload_n 0, 1) := by decide +kernel
theorem dL_law_255 : decode cL_law 255 = .ok (.iload_n 3, 1) := by decide +kernel
theorem dL_law_256 : decode cL_law 256 = .ok (.iconst 1, 1) := by decide +kernel
theorem dL_law_257 : decode cL_law 257 = .ok (.iadd, 1) := by decide +kernel
theorem dL_law_258 : decode cL_law 258 = .ok (.iaload, 1) := by decide +kernel
theorem dL_law_259 : decode cL_law 259 = .ok (.invokevirtual 35, 3) := by decide +kernel
theorem dL_law_262 : decode cL_law 262 = .ok (.aload_n 2, 1) := by decide +kernel
theorem dL_law_263 : decode cL_law 263 = .ok (.aload_n 0, 1) := by decide +kernel
theorem dL_law_264 : decode cL_law 264 = .ok (.iload_n 3, 1) := by decide +kernel
theorem dL_law_265 : decode cL_law 265 = .ok (.iconst 1, 1) := by decide +kernel
theorem dL_law_266 : decode cL_law 266 = .ok (.iadd, 1) := by decide +kernel
theorem dL_law_267 : decode cL_law 267 = .ok (.iaload, 1) := by decide +kernel
theorem dL_law_268 : decode cL_law 268 = .ok (.invokevirtual 38, 3) := by decide +kernel
theorem dL_law_271 : decode cL_law 271 = .ok (.if_icmp .eq 677, 3) := by decide +kernel
theorem dL_law_274 : decode cL_law 274 = .ok (.iconst 0, 1) := by decide +kernel
theorem dL_law_275 : decode cL_law 275 = .ok (.ireturn, 1) := by decide +kernel
theorem dL_law_276 : decode cL_law 276 = .ok (.aload_n 1, 1) := by decide +kernel
theorem dL_law_277 : decode cL_law 277 = .ok (.aload_n 0, 1) := by decide +kernel
theorem dL_law_278 : decode cL_law 278 = .ok (.iload_n 3, 1) := by decide +kernel
theorem dL_law_279 : decode cL_law 279 = .ok (.iconst 1, 1) := by decide +kernel
theorem dL_law_280 : decode cL_law 280 = .ok (.iadd, 1) := by decide +kernel
theorem dL_law_281 : decode cL_law 281 = .ok (.iaload, 1) := by decide +kernel
theorem dL_law_282 : decode cL_law 282 = .ok (.aload_n 0, 1) := by decide +kernel
theorem dL_law_283 : decode cL_law 283 = .ok (.iload_n 3, 1) := by decide +kernel
theorem dL_law_284 : decode cL_law 284 = .ok (.iconst 2, 1) := by decide +kernel
theorem dL_law_285 : decode cL_law 285 = .ok (.iadd, 1) := by decide +kernel
theorem dL_law_286 : decode cL_law 286 = .ok (.iaload, 1) := by decide +kernel
theorem dL_law_287 : decode cL_law 287 = .ok (.invokevirtual 39, 3) := by decide +kernel
theorem dL_law_290 : decode cL_law 290 = .ok (.aload_n 2, 1) := by decide +kernel
theorem dL_law_291 : decode cL_law 291 = .ok (.aload_n 0, 1) := by decide +kernel
theorem dL_law_292 : decode cL_law 292 = .ok (.iload_n 3, 1) := by decide +kernel
theorem dL_law_293 : decode cL_law 293 = .ok (.iconst 1, 1) := by decide +kernel
theorem dL_law_294 : decode cL_law 294 = .ok (.iadd, 1) := by decide +kernel
theorem dL_law_295 : decode cL_law 295 = .ok (.iaload, 1) := by decide +kernel
theorem dL_law_296 : decode cL_law 296 = .ok (.aload_n 0, 1) := by decide +kernel
theorem dL_law_297 : decode cL_law 297 = .ok (.iload_n 3, 1) := by decide +kernel
theorem dL_law_298 : decode cL_law 298 = .ok (.iconst 2, 1) := by decide +kernel
theorem dL_law_299 : decode cL_law 299 = .ok (.iadd, 1) := by decide +kernel
theorem dL_law_300 : decode cL_law 300 = .ok (.iaload, 1) := by decide +kernel
theorem dL_law_301 : decode cL_law 301 = .ok (.invokevirtual 43, 3) := by decide +kernel
theorem dL_law_304 : decode cL_law 304 = .ok (.if_icmp .eq 644, 3) := by decide +kernel
theorem dL_law_307 : decode cL_law 307 = .ok (.iconst 0, 1) := by decide +kernel
theorem dL_law_308 : decode cL_law 308 = .ok (.ireturn, 1) := by decide +kernel
theorem dL_law_309 : decode cL_law 309 = .ok (.aload_n 1, 1) := by decide +kernel
theorem dL_law_310 : decode cL_law 310 = .ok (.aload_n 0, 1) := by decide +kernel
theorem dL_law_311 : decode cL_law 311 = .ok (.iload_n 3, 1) := by decide +kernel
theorem dL_law_312 : decode cL_law 312 = .ok (.iconst 1, 1) := by decide +kernel
theorem dL_law_313 : decode cL_law 313 = .ok (.iadd, 1) := by decide +kernel
theorem dL_law_314 : decode cL_law 314 = .ok (.iaload, 1) := by decide +kernel
theorem dL_law_315 : decode cL_law 315 = .ok (.aload_n 0, 1) := by decide +kernel
theorem dL_law_316 : decode cL_law 316 = .ok (.iload_n 3, 1) := by decide +kernel
theorem dL_law_317 : decode cL_law 317 = .ok (.iconst 2, 1) := by decide +kernel
theorem dL_law_318 : decode cL_law 318 = .ok (.iadd, 1) := by decide +kernel
theorem dL_law_319 : decode cL_law 319 = .ok (.iaload, 1) := by decide +kernel
theorem dL_law_320 : decode cL_law 320 = .ok (.invokevirtual 44, 3) := by decide +kernel
theorem dL_law_323 : decode cL_law 323 = .ok (.aload_n 2, 1) := by decide +kernel
theorem dL_law_324 : decode cL_law 324 = .ok (.aload_n 0, 1) := by decide +kernel
theorem dL_law_325 : decode cL_law 325 = .ok (.iload_n 3, 1) := by decide +kernel
theorem dL_law_326 : decode cL_law 326 = .ok (.iconst 1, 1) := by decide +kernel
theorem dL_law_327 : decode cL_law 327 = .ok (.iadd, 1) := by decide +kernel
theorem dL_law_328 : decode cL_law 328 = .ok (.iaload, 1) := by decide +kernel
theorem dL_law_329 : decode cL_law 329 = .ok (.aload_n 0, 1) := by decide +kernel
theorem dL_law_330 : decode cL_law 330 = .ok (.iload_n 3, 1) := by decide +kernel
theorem dL_law_331 : decode cL_law 331 = .ok (.iconst 2, 1) := by decide +kernel
theorem dL_law_332 : decode cL_law 332 = .ok (.iadd, 1) := by decide +kernel
theorem dL_law_333 : decode cL_law 333 = .ok (.iaload, 1) := by decide +kernel
theorem dL_law_334 : decode cL_law 334 = .ok (.invokevirtual 47, 3) := by decide +kernel
theorem dL_law_337 : decode cL_law 337 = .ok (.if_icmp .eq 611, 3) := by decide +kernel
theorem dL_law_340 : decode cL_law 340 = .ok (.iconst 0, 1) := by decide +kernel
theorem dL_law_341 : decode cL_law 341 = .ok (.ireturn, 1) := by decide +kernel
theorem dL_law_342 : decode cL_law 342 = .ok (.aload_n 1, 1) := by decide +kernel
theorem dL_law_343 : decode cL_law 343 = .ok (.aload_n 0, 1) := by decide +kernel
theorem dL_law_344 : decode cL_law 344 = .ok (.iload_n 3, 1) := by decide +kernel
theorem dL_law_345 : decode cL_law 345 = .ok (.iconst 1, 1) := by decide +kernel
theorem dL_law_346 : decode cL_law 346 = .ok (.iadd, 1) := by decide +kernel
theorem dL_law_347 : decode cL_law 347 = .ok (.iaload, 1) := by decide +kernel
theorem dL_law_348 : decode cL_law 348 = .ok (.aload_n 0, 1) := by decide +kernel
theorem dL_law_349 : decode cL_law 349 = .ok (.iload_n 3, 1) := by decide +kernel
theorem dL_law_350 : decode cL_law 350 = .ok (.iconst 2, 1) := by decide +kernel
theorem dL_law_351 : decode cL_law 351 = .ok (.iadd, 1) := by decide +kernel
theorem dL_law_352 : decode cL_law 352 = .ok (.iaload, 1) := by decide +kernel
theorem dL_law_353 : decode cL_law 353 = .ok (.invokevirtual 48, 3) := by decide +kernel
theorem dL_law_356 : decode cL_law 356 = .ok (.aload_n 2, 1) := by decide +kernel
theorem dL_law_357 : decode cL_law 357 = .ok (.aload_n 0, 1) := by decide +kernel
theorem dL_law_358 : decode cL_law 358 = .ok (.iload_n 3, 1) := by decide +kernel
theorem dL_law_359 : decode cL_law 359 = .ok (.iconst 1, 1) := by decide +kernel
theorem dL_law_360 : decode cL_law 360 = .ok (.iadd, 1) := by decide +kernel
theorem dL_law_361 : decode cL_law 361 = .ok (.iaload, 1) := by decide +kernel
theorem dL_law_362 : decode cL_law 362 = .ok (.aload_n 0, 1) := by decide +kernel
theorem dL_law_363 : decode cL_law 363 = .ok (.iload_n 3, 1) := by decide +kernel
theorem dL_law_364 : decode cL_law 364 = .ok (.iconst 2, 1) := by decide +kernel
theorem dL_law_365 : decode cL_law 365 = .ok (.iadd, 1) := by decide +kernel
theorem dL_law_366 : decode cL_law 366 = .ok (.iaload, 1) := by decide +kernel
theorem dL_law_367 : decode cL_law 367 = .ok (.invokevirtual 51, 3) := by decide +kernel
theorem dL_law_370 : decode cL_law 370 = .ok (.if_icmp .eq 578, 3) := by decide +kernel
theorem dL_law_373 : decode cL_law 373 = .ok (.iconst 0, 1) := by decide +kernel
theorem dL_law_374 : decode cL_law 374 = .ok (.ireturn, 1) := by decide +kernel
theorem dL_law_375 : decode cL_law 375 = .ok (.aload_n 1, 1) := by decide +kernel
theorem dL_law_376 : decode cL_law 376 = .ok (.aload_n 0, 1) := by decide +kernel
theorem dL_law_377 : decode cL_law 377 = .ok (.iload_n 3, 1) := by decide +kernel
theorem dL_law_378 : decode cL_law 378 = .ok (.iconst 1, 1) := by decide +kernel
theorem dL_law_379 : decode cL_law 379 = .ok (.iadd, 1) := by decide +kernel
theorem dL_law_380 : decode cL_law 380 = .ok (.iaload, 1) := by decide +kernel
theorem dL_law_381 : decode cL_law 381 = .ok (.invokevirtual 52, 3) := by decide +kernel
theorem dL_law_384 : decode cL_law 384 = .ok (.aload_n 2, 1) := by decide +kernel
theorem dL_law_385 : decode cL_law 385 = .ok (.aload_n 0, 1) := by decide +kernel
theorem dL_law_386 : decode cL_law 386 = .ok (.iload_n 3, 1) := by decide +kernel
theorem dL_law_387 : decode cL_law 387 = .ok (.iconst 1, 1) := by decide +kernel
theorem dL_law_388 : decode cL_law 388 = .ok (.iadd, 1) := by decide +kernel
theorem dL_law_389 : decode cL_law 389 = .ok (.iaload, 1) := by decide +kernel
theorem dL_law_390 : decode cL_law 390 = .ok (.invokevirtual 55, 3) := by decide +kernel
theorem dL_law_393 : decode cL_law 393 = .ok (.if_icmp .eq 555, 3) := by decide +kernel
theorem dL_law_396 : decode cL_law 396 = .ok (.iconst 0, 1) := by decide +kernel
theorem dL_law_397 : decode cL_law 397 = .ok (.ireturn, 1) := by decide +kernel
theorem dL_law_398 : decode cL_law 398 = .ok (.aload_n 1, 1) := by decide +kernel
theorem dL_law_399 : decode cL_law 399 = .ok (.invokevirtual 56, 3) := by decide +kernel
theorem dL_law_402 : decode cL_law 402 = .ok (.aload_n 2, 1) := by decide +kernel
theorem dL_law_403 : decode cL_law 403 = .ok (.invokevirtual 59, 3) := by decide +kernel
theorem dL_law_406 : decode cL_law 406 = .ok (.if_icmp .eq 542, 3) := by decide +kernel
theorem dL_law_409 : decode cL_law 409 = .ok (.iconst 0, 1) := by decide +kernel
theorem dL_law_410 : decode cL_law 410 = .ok (.ireturn, 1) := by decide +kernel
theorem dL_law_411 : decode cL_law 411 = .ok (.aload_n 1, 1) := by decide +kernel
theorem dL_law_412 : decode cL_law 412 = .ok (.aload_n 0, 1) := by decide +kernel
theorem dL_law_413 : decode cL_law 413 = .ok (.iload_n 3, 1) := by decide +kernel
theorem dL_law_414 : decode cL_law 414 = .ok (.iconst 1, 1) := by decide +kernel
theorem dL_law_415 : decode cL_law 415 = .ok (.iadd, 1) := by decide +kernel
theorem dL_law_416 : decode cL_law 416 = .ok (.iaload, 1) := by decide +kernel
theorem dL_law_417 : decode cL_law 417 = .ok (.aload_n 0, 1) := by decide +kernel
theorem dL_law_418 : decode cL_law 418 = .ok (.iload_n 3, 1) := by decide +kernel
theorem dL_law_419 : decode cL_law 419 = .ok (.iconst 2, 1) := by decide +kernel
theorem dL_law_420 : decode cL_law 420 = .ok (.iadd, 1) := by decide +kernel
theorem dL_law_421 : decode cL_law 421 = .ok (.iaload, 1) := by decide +kernel
theorem dL_law_422 : decode cL_law 422 = .ok (.invokevirtual 60, 3) := by decide +kernel
theorem dL_law_425 : decode cL_law 425 = .ok (.aload_n 2, 1) := by decide +kernel
theorem dL_law_426 : decode cL_law 426 = .ok (.aload_n 0, 1) := by decide +kernel
theorem dL_law_427 : decode cL_law 427 = .ok (.iload_n 3, 1) := by decide +kernel
theorem dL_law_428 : decode cL_law 428 = .ok (.iconst 1, 1) := by decide +kernel
theorem dL_law_429 : decode cL_law 429 = .ok (.iadd, 1) := by decide +kernel
theorem dL_law_430 : decode cL_law 430 = .ok (.iaload, 1) := by decide +kernel
theorem dL_law_431 : decode cL_law 431 = .ok (.aload_n 0, 1) := by decide +kernel
theorem dL_law_432 : decode cL_law 432 = .ok (.iload_n 3, 1) := by decide +kernel
theorem dL_law_433 : decode cL_law 433 = .ok (.iconst 2, 1) := by decide +kernel
theorem dL_law_434 : decode cL_law 434 = .ok (.iadd, 1) := by decide +kernel
theorem dL_law_435 : decode cL_law 435 = .ok (.iaload, 1) := by decide +kernel
theorem dL_law_436 : decode cL_law 436 = .ok (.invokevirtual 63, 3) := by decide +kernel
theorem dL_law_439 : decode cL_law 439 = .ok (.if_icmp .eq 509, 3) := by decide +kernel
theorem dL_law_442 : decode cL_law 442 = .ok (.iconst 0, 1) := by decide +kernel
theorem dL_law_443 : decode cL_law 443 = .ok (.ireturn, 1) := by decide +kernel
theorem dL_law_444 : decode cL_law 444 = .ok (.aload_n 1, 1) := by decide +kernel
theorem dL_law_445 : decode cL_law 445 = .ok (.aload_n 0, 1) := by decide +kernel
theorem dL_law_446 : decode cL_law 446 = .ok (.iload_n 3, 1) := by decide +kernel
theorem dL_law_447 : decode cL_law 447 = .ok (.iconst 1, 1) := by decide +kernel
theorem dL_law_448 : decode cL_law 448 = .ok (.iadd, 1) := by decide +kernel
theorem dL_law_449 : decode cL_law 449 = .ok (.iaload, 1) := by decide +kernel
theorem dL_law_450 : decode cL_law 450 = .ok (.aload_n 0, 1) := by decide +kernel
theorem dL_law_451 : decode cL_law 451 = .ok (.iload_n 3, 1) := by decide +kernel
theorem dL_law_452 : decode cL_law 452 = .ok (.iconst 2, 1) := by decide +kernel
theorem dL_law_453 : decode cL_law 453 = .ok (.iadd, 1) := by decide +kernel
theorem dL_law_454 : decode cL_law 454 = .ok (.iaload, 1) := by decide +kernel
theorem dL_law_455 : decode cL_law 455 = .ok (.invokevirtual 64, 3) := by decide +kernel
theorem dL_law_458 : decode cL_law 458 = .ok (.aload_n 2, 1) := by decide +kernel
theorem dL_law_459 : decode cL_law 459 = .ok (.aload_n 0, 1) := by decide +kernel
theorem dL_law_460 : decode cL_law 460 = .ok (.iload_n 3, 1) := by decide +kernel
theorem dL_law_461 : decode cL_law 461 = .ok (.iconst 1, 1) := by decide +kernel
theorem dL_law_462 : decode cL_law 462 = .ok (.iadd, 1) := by decide +kernel
theorem dL_law_463 : decode cL_law 463 = .ok (.iaload, 1) := by decide +kernel
theorem dL_law_464 : decode cL_law 464 = .ok (.aload_n 0, 1) := by decide +kernel
theorem dL_law_465 : decode cL_law 465 = .ok (.iload_n 3, 1) := by decide +kernel
theorem dL_law_466 : decode cL_law 466 = .ok (.iconst 2, 1) := by decide +kernel
theorem dL_law_467 : decode cL_law 467 = .ok (.iadd, 1) := by decide +kernel
theorem dL_law_468 : decode cL_law 468 = .ok (.iaload, 1) := by decide +kernel
theorem dL_law_469 : decode cL_law 469 = .ok (.invokevirtual 67, 3) := by decide +kernel
theorem dL_law_472 : decode cL_law 472 = .ok (.if_icmp .eq 476, 3) := by decide +kernel
theorem dL_law_475 : decode cL_law 475 = .ok (.iconst 0, 1) := by decide +kernel
theorem dL_law_476 : decode cL_law 476 = .ok (.ireturn, 1) := by decide +kernel
theorem dL_law_477 : decode cL_law 477 = .ok (.aload_n 1, 1) := by decide +kernel
theorem dL_law_478 : decode cL_law 478 = .ok (.aload_n 0, 1) := by decide +kernel
theorem dL_law_479 : decode cL_law 479 = .ok (.iload_n 3, 1) := by decide +kernel
theorem dL_law_480 : decode cL_law 480 = .ok (.iconst 1, 1) := by decide +kernel
theorem dL_law_481 : decode cL_law 481 = .ok (.iadd, 1) := by decide +kernel
theorem dL_law_482 : decode cL_law 482 = .ok (.iaload, 1) := by decide +kernel
theorem dL_law_483 : decode cL_law 483 = .ok (.aload_n 0, 1) := by decide +kernel
theorem dL_law_484 : decode cL_law 484 = .ok (.iload_n 3, 1) := by decide +kernel
theorem dL_law_485 : decode cL_law 485 = .ok (.iconst 2, 1) := by decide +kernel
theorem dL_law_486 : decode cL_law 486 = .ok (.iadd, 1) := by decide +kernel
theorem dL_law_487 : decode cL_law 487 = .ok (.iaload, 1) := by decide +kernel
theorem dL_law_488 : decode cL_law 488 = .ok (.invokevirtual 68, 3) := by decide +kernel
theorem dL_law_491 : decode cL_law 491 = .ok (.aload_n 2, 1) := by decide +kernel
theorem dL_law_492 : decode cL_law 492 = .ok (.aload_n 0, 1) := by decide +kernel
theorem dL_law_493 : decode cL_law 493 = .ok (.iload_n 3, 1) := by decide +kernel
theorem dL_law_494 : decode cL_law 494 = .ok (.iconst 1, 1) := by decide +kernel
theorem dL_law_495 : decode cL_law 495 = .ok (.iadd, 1) := by decide +kernel
theorem dL_law_496 : decode cL_law 496 = .ok (.iaload, 1) := by decide +kernel
theorem dL_law_497 : decode cL_law 497 = .ok (.aload_n 0, 1) := by decide +kernel
theorem dL_law_498 : decode cL_law 498 = .ok (.iload_n 3, 1) := by decide +kernel
theorem dL_law_499 : decode cL_law 499 = .ok (.iconst 2, 1) := by decide +kernel
theorem dL_law_500 : decode cL_law 500 = .ok (.iadd, 1) := by decide +kernel
theorem dL_law_501 : decode cL_law 501 = .ok (.iaload, 1) := by decide +kernel
theorem dL_law_502 : decode cL_law 502 = .ok (.invokevirtual 71, 3) := by decide +kernel
theorem dL_law_505 : decode cL_law 505 = .ok (.if_icmp .eq 443, 3) := by decide +kernel
theorem dL_law_508 : decode cL_law 508 = .ok (.iconst 0, 1) := by decide +kernel
theorem dL_law_509 : decode cL_law 509 = .ok (.ireturn, 1) := by decide +kernel
theorem dL_law_510 : decode cL_law 510 = .ok (.aload_n 1, 1) := by decide +kernel
theorem dL_law_511 : decode cL_law 511 = .ok (.aload_n 0, 1) := by decide +kernel
theorem dL_law_512 : decode cL_law 512 = .ok (.iload_n 3, 1) := by decide +kernel
theorem dL_law_513 : decode cL_law 513 = .ok (.iconst 1, 1) := by decide +kernel
theorem dL_law_514 : decode cL_law 514 = .ok (.iadd, 1) := by decide +kernel
theorem dL_law_515 : decode cL_law 515 = .ok (.iaload, 1) := by decide +kernel
theorem dL_law_516 : decode cL_law 516 = .ok (.aload_n 0, 1) := by decide +kernel
theorem dL_law_517 : decode cL_law 517 = .ok (.iload_n 3, 1) := by decide +kernel
theorem dL_law_518 : decode cL_law 518 = .ok (.iconst 2, 1) := by decide +kernel
theorem dL_law_519 : decode cL_law 519 = .ok (.iadd, 1) := by decide +kernel
theorem dL_law_520 : decode cL_law 520 = .ok (.iaload, 1) := by decide +kernel
theorem dL_law_521 : decode cL_law 521 = .ok (.invokevirtual 72, 3) := by decide +kernel
theorem dL_law_524 : decode cL_law 524 = .ok (.aload_n 2, 1) := by decide +kernel
theorem dL_law_525 : decode cL_law 525 = .ok (.aload_n 0, 1) := by decide +kernel
theorem dL_law_526 : decode cL_law 526 = .ok (.iload_n 3, 1) := by decide +kernel
theorem dL_law_527 : decode cL_law 527 = .ok (.iconst 1, 1) := by decide +kernel
theorem dL_law_528 : decode cL_law 528 = .ok (.iadd, 1) := by decide +kernel
theorem dL_law_529 : decode cL_law 529 = .ok (.iaload, 1) := by decide +kernel
theorem dL_law_530 : decode cL_law 530 = .ok (.aload_n 0, 1) := by decide +kernel
theorem dL_law_531 : decode cL_law 531 = .ok (.iload_n 3, 1) := by decide +kernel
theorem dL_law_532 : decode cL_law 532 = .ok (.iconst 2, 1) := by decide +kernel
theorem dL_law_533 : decode cL_law 533 = .ok (.iadd, 1) := by decide +kernel
theorem dL_law_534 : decode cL_law 534 = .ok (.iaload, 1) := by decide +kernel
theorem dL_law_535 : decode cL_law 535 = .ok (.invokevirtual 75, 3) := by decide +kernel
theorem dL_law_538 : decode cL_law 538 = .ok (.if_icmp .eq 410, 3) := by decide +kernel
theorem dL_law_541 : decode cL_law 541 = .ok (.iconst 0, 1) := by decide +kernel
theorem dL_law_542 : decode cL_law 542 = .ok (.ireturn, 1) := by decide +kernel
theorem dL_law_543 : decode cL_law 543 = .ok (.aload_n 1, 1) := by decide +kernel
theorem dL_law_544 : decode cL_law 544 = .ok (.aload_n 0, 1) := by decide +kernel
theorem dL_law_545 : decode cL_law 545 = .ok (.iload_n 3, 1) := by decide +kernel
theorem dL_law_546 : decode cL_law 546 = .ok (.iconst 1, 1) := by decide +kernel
theorem dL_law_547 : decode cL_law 547 = .ok (.iadd, 1) := by decide +kernel
theorem dL_law_548 : decode cL_law 548 = .ok (.iaload, 1) := by decide +kernel
theorem dL_law_549 : decode cL_law 549 = .ok (.aload_n 0, 1) := by decide +kernel
theorem dL_law_550 : decode cL_law 550 = .ok (.iload_n 3, 1) := by decide +kernel
theorem dL_law_551 : decode cL_law 551 = .ok (.iconst 2, 1) := by decide +kernel
theorem dL_law_552 : decode cL_law 552 = .ok (.iadd, 1) := by decide +kernel
theorem dL_law_553 : decode cL_law 553 = .ok (.iaload, 1) := by decide +kernel
theorem dL_law_554 : decode cL_law 554 = .ok (.invokevirtual 76, 3) := by decide +kernel
theorem dL_law_557 : decode cL_law 557 = .ok (.aload_n 2, 1) := by decide +kernel
theorem dL_law_558 : decode cL_law 558 = .ok (.aload_n 0, 1) := by decide +kernel
theorem dL_law_559 : decode cL_law 559 = .ok (.iload_n 3, 1) := by decide +kernel
theorem dL_law_560 : decode cL_law 560 = .ok (.iconst 1, 1) := by decide +kernel
theorem dL_law_561 : decode cL_law 561 = .ok (.iadd, 1) := by decide +kernel
theorem dL_law_562 : decode cL_law 562 = .ok (.iaload, 1) := by decide +kernel
theorem dL_law_563 : decode cL_law 563 = .ok (.aload_n 0, 1) := by decide +kernel
theorem dL_law_564 : decode cL_law 564 = .ok (.iload_n 3, 1) := by decide +kernel
theorem dL_law_565 : decode cL_law 565 = .ok (.iconst 2, 1) := by decide +kernel
theorem dL_law_566 : decode cL_law 566 = .ok (.iadd, 1) := by decide +kernel
theorem dL_law_567 : decode cL_law 567 = .ok (.iaload, 1) := by decide +kernel
theorem dL_law_568 : decode cL_law 568 = .ok (.invokevirtual 79, 3) := by decide +kernel
theorem dL_law_571 : decode cL_law 571 = .ok (.if_icmp .eq 377, 3) := by decide +kernel
theorem dL_law_574 : decode cL_law 574 = .ok (.iconst 0, 1) := by decide +kernel
theorem dL_law_575 : decode cL_law 575 = .ok (.ireturn, 1) := by decide +kernel
theorem dL_law_576 : decode cL_law 576 = .ok (.aload_n 1, 1) := by decide +kernel
theorem dL_law_577 : decode cL_law 577 = .ok (.invokevirtual 80, 3) := by decide +kernel
theorem dL_law_580 : decode cL_law 580 = .ok (.aload_n 2, 1) := by decide +kernel
theorem dL_law_581 : decode cL_law 581 = .ok (.invokevirtual 83, 3) := by decide +kernel
theorem dL_law_584 : decode cL_law 584 = .ok (.if_icmp .eq 364, 3) := by decide +kernel
theorem dL_law_587 : decode cL_law 587 = .ok (.iconst 0, 1) := by decide +kernel
theorem dL_law_588 : decode cL_law 588 = .ok (.ireturn, 1) := by decide +kernel
theorem dL_law_589 : decode cL_law 589 = .ok (.aload_n 1, 1) := by decide +kernel
theorem dL_law_590 : decode cL_law 590 = .ok (.aload_n 0, 1) := by decide +kernel
theorem dL_law_591 : decode cL_law 591 = .ok (.iload_n 3, 1) := by decide +kernel
theorem dL_law_592 : decode cL_law 592 = .ok (.iconst 1, 1) := by decide +kernel
theorem dL_law_593 : decode cL_law 593 = .ok (.iadd, 1) := by decide +kernel
theorem dL_law_594 : decode cL_law 594 = .ok (.iaload, 1) := by decide +kernel
theorem dL_law_595 : decode cL_law 595 = .ok (.aload_n 0, 1) := by decide +kernel
theorem dL_law_596 : decode cL_law 596 = .ok (.iload_n 3, 1) := by decide +kernel
theorem dL_law_597 : decode cL_law 597 = .ok (.iconst 2, 1) := by decide +kernel
theorem dL_law_598 : decode cL_law 598 = .ok (.iadd, 1) := by decide +kernel
theorem dL_law_599 : decode cL_law 599 = .ok (.iaload, 1) := by decide +kernel
theorem dL_law_600 : decode cL_law 600 = .ok (.invokevirtual 84, 3) := by decide +kernel
theorem dL_law_603 : decode cL_law 603 = .ok (.aload_n 2, 1) := by decide +kernel
theorem dL_law_604 : decode cL_law 604 = .ok (.aload_n 0, 1) := by decide +kernel
theorem dL_law_605 : decode cL_law 605 = .ok (.iload_n 3, 1) := by decide +kernel
theorem dL_law_606 : decode cL_law 606 = .ok (.iconst 1, 1) := by decide +kernel
theorem dL_law_607 : decode cL_law 607 = .ok (.iadd, 1) := by decide +kernel
theorem dL_law_608 : decode cL_law 608 = .ok (.iaload, 1) := by decide +kernel
theorem dL_law_609 : decode cL_law 609 = .ok (.aload_n 0, 1) := by decide +kernel
theorem dL_law_610 : decode cL_law 610 = .ok (.iload_n 3, 1) := by decide +kernel
theorem dL_law_611 : decode cL_law 611 = .ok (.iconst 2, 1) := by decide +kernel
theorem dL_law_612 : decode cL_law 612 = .ok (.iadd, 1) := by decide +kernel
theorem dL_law_613 : decode cL_law 613 = .ok (.iaload, 1) := by decide +kernel
theorem dL_law_614 : decode cL_law 614 = .ok (.invokevirtual 87, 3) := by decide +kernel
theorem dL_law_617 : decode cL_law 617 = .ok (.if_icmp .eq 331, 3) := by decide +kernel
theorem dL_law_620 : decode cL_law 620 = .ok (.iconst 0, 1) := by decide +kernel
theorem dL_law_621 : decode cL_law 621 = .ok (.ireturn, 1) := by decide +kernel
theorem dL_law_622 : decode cL_law 622 = .ok (.aload_n 1, 1) := by decide +kernel
theorem dL_law_623 : decode cL_law 623 = .ok (.aload_n 0, 1) := by decide +kernel
theorem dL_law_624 : decode cL_law 624 = .ok (.iload_n 3, 1) := by decide +kernel
theorem dL_law_625 : decode cL_law 625 = .ok (.iconst 1, 1) := by decide +kernel
theorem dL_law_626 : decode cL_law 626 = .ok (.iadd, 1) := by decide +kernel
theorem dL_law_627 : decode cL_law 627 = .ok (.iaload, 1) := by decide +kernel
theorem dL_law_628 : decode cL_law 628 = .ok (.aload_n 0, 1) := by decide +kernel
theorem dL_law_629 : decode cL_law 629 = .ok (.iload_n 3, 1) := by decide +kernel
theorem dL_law_630 : decode cL_law 630 = .ok (.iconst 2, 1) := by decide +kernel
theorem dL_law_631 : decode cL_law 631 = .ok (.iadd, 1) := by decide +kernel
theorem dL_law_632 : decode cL_law 632 = .ok (.iaload, 1) := by decide +kernel
theorem dL_law_633 : decode cL_law 633 = .ok (.invokevirtual 88, 3) := by decide +kernel
theorem dL_law_636 : decode cL_law 636 = .ok (.aload_n 2, 1) := by decide +kernel
theorem dL_law_637 : decode cL_law 637 = .ok (.aload_n 0, 1) := by decide +kernel
theorem dL_law_638 : decode cL_law 638 = .ok (.iload_n 3, 1) := by decide +kernel
theorem dL_law_639 : decode cL_law 639 = .ok (.iconst 1, 1) := by decide +kernel
theorem dL_law_640 : decode cL_law 640 = .ok (.iadd, 1) := by decide +kernel
theorem dL_law_641 : decode cL_law 641 = .ok (.iaload, 1) := by decide +kernel
theorem dL_law_642 : decode cL_law 642 = .ok (.aload_n 0, 1) := by decide +kernel
theorem dL_law_643 : decode cL_law 643 = .ok (.iload_n 3, 1) := by decide +kernel
theorem dL_law_644 : decode cL_law 644 = .ok (.iconst 2, 1) := by decide +kernel
theorem dL_law_645 : decode cL_law 645 = .ok (.iadd, 1) := by decide +kernel
theorem dL_law_646 : decode cL_law 646 = .ok (.iaload, 1) := by decide +kernel
theorem dL_law_647 : decode cL_law 647 = .ok (.invokevirtual 91, 3) := by decide +kernel
theorem dL_law_650 : decode cL_law 650 = .ok (.if_icmp .eq 298, 3) := by decide +kernel
theorem dL_law_653 : decode cL_law 653 = .ok (.iconst 0, 1) := by decide +kernel
theorem dL_law_654 : decode cL_law 654 = .ok (.ireturn, 1) := by decide +kernel
theorem dL_law_655 : decode cL_law 655 = .ok (.aload_n 1, 1) := by decide +kernel
theorem dL_law_656 : decode cL_law 656 = .ok (.aload_n 0, 1) := by decide +kernel
theorem dL_law_657 : decode cL_law 657 = .ok (.iload_n 3, 1) := by decide +kernel
theorem dL_law_658 : decode cL_law 658 = .ok (.iconst 1, 1) := by decide +kernel
theorem dL_law_659 : decode cL_law 659 = .ok (.iadd, 1) := by decide +kernel
theorem dL_law_660 : decode cL_law 660 = .ok (.iaload, 1) := by decide +kernel
theorem dL_law_661 : decode cL_law 661 = .ok (.aload_n 0, 1) := by decide +kernel
theorem dL_law_662 : decode cL_law 662 = .ok (.iload_n 3, 1) := by decide +kernel
theorem dL_law_663 : decode cL_law 663 = .ok (.iconst 2, 1) := by decide +kernel
theorem dL_law_664 : decode cL_law 664 = .ok (.iadd, 1) := by decide +kernel
theorem dL_law_665 : decode cL_law 665 = .ok (.iaload, 1) := by decide +kernel
theorem dL_law_666 : decode cL_law 666 = .ok (.invokevirtual 92, 3) := by decide +kernel
theorem dL_law_669 : decode cL_law 669 = .ok (.aload_n 2, 1) := by decide +kernel
theorem dL_law_670 : decode cL_law 670 = .ok (.aload_n 0, 1) := by decide +kernel
theorem dL_law_671 : decode cL_law 671 = .ok (.iload_n 3, 1) := by decide +kernel
theorem dL_law_672 : decode cL_law 672 = .ok (.iconst 1, 1) := by decide +kernel
theorem dL_law_673 : decode cL_law 673 = .ok (.iadd, 1) := by decide +kernel
theorem dL_law_674 : decode cL_law 674 = .ok (.iaload, 1) := by decide +kernel
theorem dL_law_675 : decode cL_law 675 = .ok (.aload_n 0, 1) := by decide +kernel
theorem dL_law_676 : decode cL_law 676 = .ok (.iload_n 3, 1) := by decide +kernel
theorem dL_law_677 : decode cL_law 677 = .ok (.iconst 2, 1) := by decide +kernel
theorem dL_law_678 : decode cL_law 678 = .ok (.iadd, 1) := by decide +kernel
theorem dL_law_679 : decode cL_law 679 = .ok (.iaload, 1) := by decide +kernel
theorem dL_law_680 : decode cL_law 680 = .ok (.invokevirtual 95, 3) := by decide +kernel
theorem dL_law_683 : decode cL_law 683 = .ok (.if_icmp .eq 265, 3) := by decide +kernel
theorem dL_law_686 : decode cL_law 686 = .ok (.iconst 0, 1) := by decide +kernel
theorem dL_law_687 : decode cL_law 687 = .ok (.ireturn, 1) := by decide +kernel
theorem dL_law_688 : decode cL_law 688 = .ok (.aload_n 1, 1) := by decide +kernel
theorem dL_law_689 : decode cL_law 689 = .ok (.invokevirtual 96, 3) := by decide +kernel
theorem dL_law_692 : decode cL_law 692 = .ok (.aload_n 2, 1) := by decide +kernel
theorem dL_law_693 : decode cL_law 693 = .ok (.invokevirtual 99, 3) := by decide +kernel
theorem dL_law_696 : decode cL_law 696 = .ok (.if_icmp .eq 252, 3) := by decide +kernel
theorem dL_law_699 : decode cL_law 699 = .ok (.iconst 0, 1) := by decide +kernel
theorem dL_law_700 : decode cL_law 700 = .ok (.ireturn, 1) := by decide +kernel
theorem dL_law_701 : decode cL_law 701 = .ok (.aload_n 1, 1) := by decide +kernel
theorem dL_law_702 : decode cL_law 702 = .ok (.invokevirtual 100, 3) := by decide +kernel
theorem dL_law_705 : decode cL_law 705 = .ok (.aload_n 2, 1) := by decide +kernel
theorem dL_law_706 : decode cL_law 706 = .ok (.invokevirtual 103, 3) := by decide +kernel
theorem dL_law_709 : decode cL_law 709 = .ok (.if_icmp .eq 239, 3) := by decide +kernel
theorem dL_law_712 : decode cL_law 712 = .ok (.iconst 0, 1) := by decide +kernel
theorem dL_law_713 : decode cL_law 713 = .ok (.ireturn, 1) := by decide +kernel
theorem dL_law_714 : decode cL_law 714 = .ok (.aload_n 1, 1) := by decide +kernel
theorem dL_law_715 : decode cL_law 715 = .ok (.aload_n 0, 1) := by decide +kernel
theorem dL_law_716 : decode cL_law 716 = .ok (.iload_n 3, 1) := by decide +kernel
theorem dL_law_717 : decode cL_law 717 = .ok (.iconst 1, 1) := by decide +kernel
theorem dL_law_718 : decode cL_law 718 = .ok (.iadd, 1) := by decide +kernel
theorem dL_law_719 : decode cL_law 719 = .ok (.iaload, 1) := by decide +kernel
theorem dL_law_720 : decode cL_law 720 = .ok (.aload_n 0, 1) := by decide +kernel
theorem dL_law_721 : decode cL_law 721 = .ok (.iload_n 3, 1) := by decide +kernel
theorem dL_law_722 : decode cL_law 722 = .ok (.iconst 2, 1) := by decide +kernel
theorem dL_law_723 : decode cL_law 723 = .ok (.iadd, 1) := by decide +kernel
theorem dL_law_724 : decode cL_law 724 = .ok (.iaload, 1) := by decide +kernel
theorem dL_law_725 : decode cL_law 725 = .ok (.aload_n 0, 1) := by decide +kernel
theorem dL_law_726 : decode cL_law 726 = .ok (.iload_n 3, 1) := by decide +kernel
theorem dL_law_727 : decode cL_law 727 = .ok (.iconst 3, 1) := by decide +kernel
theorem dL_law_728 : decode cL_law 728 = .ok (.iadd, 1) := by decide +kernel
theorem dL_law_729 : decode cL_law 729 = .ok (.iaload, 1) := by decide +kernel
theorem dL_law_730 : decode cL_law 730 = .ok (.invokevirtual 104, 3) := by decide +kernel
theorem dL_law_733 : decode cL_law 733 = .ok (.aload_n 2, 1) := by decide +kernel
theorem dL_law_734 : decode cL_law 734 = .ok (.aload_n 0, 1) := by decide +kernel
theorem dL_law_735 : decode cL_law 735 = .ok (.iload_n 3, 1) := by decide +kernel
theorem dL_law_736 : decode cL_law 736 = .ok (.iconst 1, 1) := by decide +kernel
theorem dL_law_737 : decode cL_law 737 = .ok (.iadd, 1) := by decide +kernel
theorem dL_law_738 : decode cL_law 738 = .ok (.iaload, 1) := by decide +kernel
theorem dL_law_739 : decode cL_law 739 = .ok (.aload_n 0, 1) := by decide +kernel
theorem dL_law_740 : decode cL_law 740 = .ok (.iload_n 3, 1) := by decide +kernel
theorem dL_law_741 : decode cL_law 741 = .ok (.iconst 2, 1) := by decide +kernel
theorem dL_law_742 : decode cL_law 742 = .ok (.iadd, 1) := by decide +kernel
theorem dL_law_743 : decode cL_law 743 = .ok (.iaload, 1) := by decide +kernel
theorem dL_law_744 : decode cL_law 744 = .ok (.aload_n 0, 1) := by decide +kernel
theorem dL_law_745 : decode cL_law 745 = .ok (.iload_n 3, 1) := by decide +kernel
theorem dL_law_746 : decode cL_law 746 = .ok (.iconst 3, 1) := by decide +kernel
theorem dL_law_747 : decode cL_law 747 = .ok (.iadd, 1) := by decide +kernel
theorem dL_law_748 : decode cL_law 748 = .ok (.iaload, 1) := by decide +kernel
theorem dL_law_749 : decode cL_law 749 = .ok (.invokevirtual 108, 3) := by decide +kernel
theorem dL_law_752 : decode cL_law 752 = .ok (.if_icmp .eq 196, 3) := by decide +kernel
theorem dL_law_755 : decode cL_law 755 = .ok (.iconst 0, 1) := by decide +kernel
theorem dL_law_756 : decode cL_law 756 = .ok (.ireturn, 1) := by decide +kernel
theorem dL_law_757 : decode cL_law 757 = .ok (.aload_n 1, 1) := by decide +kernel
theorem dL_law_758 : decode cL_law 758 = .ok (.aload_n 0, 1) := by decide +kernel
theorem dL_law_759 : decode cL_law 759 = .ok (.iload_n 3, 1) := by decide +kernel
theorem dL_law_760 : decode cL_law 760 = .ok (.iconst 1, 1) := by decide +kernel
theorem dL_law_761 : decode cL_law 761 = .ok (.iadd, 1) := by decide +kernel
theorem dL_law_762 : decode cL_law 762 = .ok (.iaload, 1) := by decide +kernel
theorem dL_law_763 : decode cL_law 763 = .ok (.aload_n 0, 1) := by decide +kernel
theorem dL_law_764 : decode cL_law 764 = .ok (.iload_n 3, 1) := by decide +kernel
theorem dL_law_765 : decode cL_law 765 = .ok (.iconst 2, 1) := by decide +kernel
theorem dL_law_766 : decode cL_law 766 = .ok (.iadd, 1) := by decide +kernel
theorem dL_law_767 : decode cL_law 767 = .ok (.iaload, 1) := by decide +kernel
theorem dL_law_768 : decode cL_law 768 = .ok (.aload_n 0, 1) := by decide +kernel
theorem dL_law_769 : decode cL_law 769 = .ok (.iload_n 3, 1) := by decide +kernel
theorem dL_law_770 : decode cL_law 770 = .ok (.iconst 3, 1) := by decide +kernel
theorem dL_law_771 : decode cL_law 771 = .ok (.iadd, 1) := by decide +kernel
theorem dL_law_772 : decode cL_law 772 = .ok (.iaload, 1) := by decide +kernel
theorem dL_law_773 : decode cL_law 773 = .ok (.invokevirtual 109, 3) := by decide +kernel
theorem dL_law_776 : decode cL_law 776 = .ok (.aload_n 2, 1) := by decide +kernel
theorem dL_law_777 : decode cL_law 777 = .ok (.aload_n 0, 1) := by decide +kernel
theorem dL_law_778 : decode cL_law 778 = .ok (.iload_n 3, 1) := by decide +kernel
theorem dL_law_779 : decode cL_law 779 = .ok (.iconst 1, 1) := by decide +kernel
theorem dL_law_780 : decode cL_law 780 = .ok (.iadd, 1) := by decide +kernel
theorem dL_law_781 : decode cL_law 781 = .ok (.iaload, 1) := by decide +kernel
theorem dL_law_782 : decode cL_law 782 = .ok (.aload_n 0, 1) := by decide +kernel
theorem dL_law_783 : decode cL_law 783 = .ok (.iload_n 3, 1) := by decide +kernel
theorem dL_law_784 : decode cL_law 784 = .ok (.iconst 2, 1) := by decide +kernel
theorem dL_law_785 : decode cL_law 785 = .ok (.iadd, 1) := by decide +kernel
theorem dL_law_786 : decode cL_law 786 = .ok (.iaload, 1) := by decide +kernel
theorem dL_law_787 : decode cL_law 787 = .ok (.aload_n 0, 1) := by decide +kernel
theorem dL_law_788 : decode cL_law 788 = .ok (.iload_n 3, 1) := by decide +kernel
theorem dL_law_789 : decode cL_law 789 = .ok (.iconst 3, 1) := by decide +kernel
theorem dL_law_790 : decode cL_law 790 = .ok (.iadd, 1) := by decide +kernel
theorem dL_law_791 : decode cL_law 791 = .ok (.iaload, 1) := by decide +kernel
theorem dL_law_792 : decode cL_law 792 = .ok (.invokevirtual 112, 3) := by decide +kernel
theorem dL_law_795 : decode cL_law 795 = .ok (.if_icmp .eq 153, 3) := by decide +kernel
theorem dL_law_798 : decode cL_law 798 = .ok (.iconst 0, 1) := by decide +kernel
theorem dL_law_799 : decode cL_law 799 = .ok (.ireturn, 1) := by decide +kernel
theorem dL_law_800 : decode cL_law 800 = .ok (.aload_n 1, 1) := by decide +kernel
theorem dL_law_801 : decode cL_law 801 = .ok (.aload_n 0, 1) := by decide +kernel
theorem dL_law_802 : decode cL_law 802 = .ok (.iload_n 3, 1) := by decide +kernel
theorem dL_law_803 : decode cL_law 803 = .ok (.iconst 1, 1) := by decide +kernel
theorem dL_law_804 : decode cL_law 804 = .ok (.iadd, 1) := by decide +kernel
theorem dL_law_805 : decode cL_law 805 = .ok (.iaload, 1) := by decide +kernel
theorem dL_law_806 : decode cL_law 806 = .ok (.aload_n 0, 1) := by decide +kernel
theorem dL_law_807 : decode cL_law 807 = .ok (.iload_n 3, 1) := by decide +kernel
theorem dL_law_808 : decode cL_law 808 = .ok (.iconst 2, 1) := by decide +kernel
theorem dL_law_809 : decode cL_law 809 = .ok (.iadd, 1) := by decide +kernel
theorem dL_law_810 : decode cL_law 810 = .ok (.iaload, 1) := by decide +kernel
theorem dL_law_811 : decode cL_law 811 = .ok (.aload_n 0, 1) := by decide +kernel
theorem dL_law_812 : decode cL_law 812 = .ok (.iload_n 3, 1) := by decide +kernel
theorem dL_law_813 : decode cL_law 813 = .ok (.iconst 3, 1) := by decide +kernel
theorem dL_law_814 : decode cL_law 814 = .ok (.iadd, 1) := by decide +kernel
theorem dL_law_815 : decode cL_law 815 = .ok (.iaload, 1) := by decide +kernel
theorem dL_law_816 : decode cL_law 816 = .ok (.invokevirtual 113, 3) := by decide +kernel
theorem dL_law_819 : decode cL_law 819 = .ok (.aload_n 2, 1) := by decide +kernel
theorem dL_law_820 : decode cL_law 820 = .ok (.aload_n 0, 1) := by decide +kernel
theorem dL_law_821 : decode cL_law 821 = .ok (.iload_n 3, 1) := by decide +kernel
theorem dL_law_822 : decode cL_law 822 = .ok (.iconst 1, 1) := by decide +kernel
theorem dL_law_823 : decode cL_law 823 = .ok (.iadd, 1) := by decide +kernel
theorem dL_law_824 : decode cL_law 824 = .ok (.iaload, 1) := by decide +kernel
theorem dL_law_825 : decode cL_law 825 = .ok (.aload_n 0, 1) := by decide +kernel
theorem dL_law_826 : decode cL_law 826 = .ok (.iload_n 3, 1) := by decide +kernel
theorem dL_law_827 : decode cL_law 827 = .ok (.iconst 2, 1) := by decide +kernel
theorem dL_law_828 : decode cL_law 828 = .ok (.iadd, 1) := by decide +kernel
theorem dL_law_829 : decode cL_law 829 = .ok (.iaload, 1) := by decide +kernel
theorem dL_law_830 : decode cL_law 830 = .ok (.aload_n 0, 1) := by decide +kernel
theorem dL_law_831 : decode cL_law 831 = .ok (.iload_n 3, 1) := by decide +kernel
theorem dL_law_832 : decode cL_law 832 = .ok (.iconst 3, 1) := by decide +kernel
theorem dL_law_833 : decode cL_law 833 = .ok (.iadd, 1) := by decide +kernel
theorem dL_law_834 : decode cL_law 834 = .ok (.iaload, 1) := by decide +kernel
theorem dL_law_835 : decode cL_law 835 = .ok (.invokevirtual 116, 3) := by decide +kernel
theorem dL_law_838 : decode cL_law 838 = .ok (.if_icmp .eq 110, 3) := by decide +kernel
theorem dL_law_841 : decode cL_law 841 = .ok (.iconst 0, 1) := by decide +kernel
theorem dL_law_842 : decode cL_law 842 = .ok (.ireturn, 1) := by decide +kernel
theorem dL_law_843 : decode cL_law 843 = .ok (.aload_n 1, 1) := by decide +kernel
theorem dL_law_844 : decode cL_law 844 = .ok (.aload_n 0, 1) := by decide +kernel
theorem dL_law_845 : decode cL_law 845 = .ok (.iload_n 3, 1) := by decide +kernel
theorem dL_law_846 : decode cL_law 846 = .ok (.iconst 1, 1) := by decide +kernel
theorem dL_law_847 : decode cL_law 847 = .ok (.iadd, 1) := by decide +kernel
theorem dL_law_848 : decode cL_law 848 = .ok (.iaload, 1) := by decide +kernel
theorem dL_law_849 : decode cL_law 849 = .ok (.aload_n 0, 1) := by decide +kernel
theorem dL_law_850 : decode cL_law 850 = .ok (.iload_n 3, 1) := by decide +kernel
theorem dL_law_851 : decode cL_law 851 = .ok (.iconst 2, 1) := by decide +kernel
theorem dL_law_852 : decode cL_law 852 = .ok (.iadd, 1) := by decide +kernel
theorem dL_law_853 : decode cL_law 853 = .ok (.iaload, 1) := by decide +kernel
theorem dL_law_854 : decode cL_law 854 = .ok (.invokevirtual 117, 3) := by decide +kernel
theorem dL_law_857 : decode cL_law 857 = .ok (.aload_n 2, 1) := by decide +kernel
theorem dL_law_858 : decode cL_law 858 = .ok (.aload_n 0, 1) := by decide +kernel
theorem dL_law_859 : decode cL_law 859 = .ok (.iload_n 3, 1) := by decide +kernel
theorem dL_law_860 : decode cL_law 860 = .ok (.iconst 1, 1) := by decide +kernel
theorem dL_law_861 : decode cL_law 861 = .ok (.iadd, 1) := by decide +kernel
theorem dL_law_862 : decode cL_law 862 = .ok (.iaload, 1) := by decide +kernel
theorem dL_law_863 : decode cL_law 863 = .ok (.aload_n 0, 1) := by decide +kernel
theorem dL_law_864 : decode cL_law 864 = .ok (.iload_n 3, 1) := by decide +kernel
theorem dL_law_865 : decode cL_law 865 = .ok (.iconst 2, 1) := by decide +kernel
theorem dL_law_866 : decode cL_law 866 = .ok (.iadd, 1) := by decide +kernel
theorem dL_law_867 : decode cL_law 867 = .ok (.iaload, 1) := by decide +kernel
theorem dL_law_868 : decode cL_law 868 = .ok (.invokevirtual 120, 3) := by decide +kernel
theorem dL_law_871 : decode cL_law 871 = .ok (.if_icmp .eq 77, 3) := by decide +kernel
theorem dL_law_874 : decode cL_law 874 = .ok (.iconst 0, 1) := by decide +kernel
theorem dL_law_875 : decode cL_law 875 = .ok (.ireturn, 1) := by decide +kernel
theorem dL_law_876 : decode cL_law 876 = .ok (.aload_n 1, 1) := by decide +kernel
theorem dL_law_877 : decode cL_law 877 = .ok (.invokevirtual 121, 3) := by decide +kernel
theorem dL_law_880 : decode cL_law 880 = .ok (.aload_n 2, 1) := by decide +kernel
theorem dL_law_881 : decode cL_law 881 = .ok (.invokevirtual 124, 3) := by decide +kernel
theorem dL_law_884 : decode cL_law 884 = .ok (.if_icmp .eq 64, 3) := by decide +kernel
theorem dL_law_887 : decode cL_law 887 = .ok (.iconst 0, 1) := by decide +kernel
theorem dL_law_888 : decode cL_law 888 = .ok (.ireturn, 1) := by decide +kernel
theorem dL_law_889 : decode cL_law 889 = .ok (.aload_n 1, 1) := by decide +kernel
theorem dL_law_890 : decode cL_law 890 = .ok (.aload_n 0, 1) := by decide +kernel
theorem dL_law_891 : decode cL_law 891 = .ok (.iload_n 3, 1) := by decide +kernel
theorem dL_law_892 : decode cL_law 892 = .ok (.iconst 1, 1) := by decide +kernel
theorem dL_law_893 : decode cL_law 893 = .ok (.iadd, 1) := by decide +kernel
theorem dL_law_894 : decode cL_law 894 = .ok (.iaload, 1) := by decide +kernel
theorem dL_law_895 : decode cL_law 895 = .ok (.aload_n 0, 1) := by decide +kernel
theorem dL_law_896 : decode cL_law 896 = .ok (.iload_n 3, 1) := by decide +kernel
theorem dL_law_897 : decode cL_law 897 = .ok (.iconst 2, 1) := by decide +kernel
theorem dL_law_898 : decode cL_law 898 = .ok (.iadd, 1) := by decide +kernel
theorem dL_law_899 : decode cL_law 899 = .ok (.iaload, 1) := by decide +kernel
theorem dL_law_900 : decode cL_law 900 = .ok (.invokevirtual 125, 3) := by decide +kernel
theorem dL_law_903 : decode cL_law 903 = .ok (.aload_n 2, 1) := by decide +kernel
theorem dL_law_904 : decode cL_law 904 = .ok (.aload_n 0, 1) := by decide +kernel
theorem dL_law_905 : decode cL_law 905 = .ok (.iload_n 3, 1) := by decide +kernel
theorem dL_law_906 : decode cL_law 906 = .ok (.iconst 1, 1) := by decide +kernel
theorem dL_law_907 : decode cL_law 907 = .ok (.iadd, 1) := by decide +kernel
theorem dL_law_908 : decode cL_law 908 = .ok (.iaload, 1) := by decide +kernel
theorem dL_law_909 : decode cL_law 909 = .ok (.aload_n 0, 1) := by decide +kernel
theorem dL_law_910 : decode cL_law 910 = .ok (.iload_n 3, 1) := by decide +kernel
theorem dL_law_911 : decode cL_law 911 = .ok (.iconst 2, 1) := by decide +kernel
theorem dL_law_912 : decode cL_law 912 = .ok (.iadd, 1) := by decide +kernel
theorem dL_law_913 : decode cL_law 913 = .ok (.iaload, 1) := by decide +kernel
theorem dL_law_914 : decode cL_law 914 = .ok (.invokevirtual 128, 3) := by decide +kernel
theorem dL_law_917 : decode cL_law 917 = .ok (.if_icmp .eq 31, 3) := by decide +kernel
theorem dL_law_920 : decode cL_law 920 = .ok (.iconst 0, 1) := by decide +kernel
theorem dL_law_921 : decode cL_law 921 = .ok (.ireturn, 1) := by decide +kernel
theorem dL_law_922 : decode cL_law 922 = .ok (.aload_n 1, 1) := by decide +kernel
theorem dL_law_923 : decode cL_law 923 = .ok (.invokevirtual 129, 3) := by decide +kernel
theorem dL_law_926 : decode cL_law 926 = .ok (.aload_n 2, 1) := by decide +kernel
theorem dL_law_927 : decode cL_law 927 = .ok (.invokevirtual 132, 3) := by decide +kernel
theorem dL_law_930 : decode cL_law 930 = .ok (.if_icmp .eq 18, 3) := by decide +kernel
theorem dL_law_933 : decode cL_law 933 = .ok (.iconst 0, 1) := by decide +kernel
theorem dL_law_934 : decode cL_law 934 = .ok (.ireturn, 1) := by decide +kernel
theorem dL_law_935 : decode cL_law 935 = .ok (.aload_n 1, 1) := by decide +kernel
theorem dL_law_936 : decode cL_law 936 = .ok (.invokevirtual 133, 3) := by decide +kernel
theorem dL_law_939 : decode cL_law 939 = .ok (.aload_n 2, 1) := by decide +kernel
theorem dL_law_940 : decode cL_law 940 = .ok (.invokevirtual 136, 3) := by decide +kernel
theorem dL_law_943 : decode cL_law 943 = .ok (.if_icmp .eq 5, 3) := by decide +kernel
theorem dL_law_946 : decode cL_law 946 = .ok (.iconst 0, 1) := by decide +kernel
theorem dL_law_947 : decode cL_law 947 = .ok (.ireturn, 1) := by decide +kernel
theorem dL_law_948 : decode cL_law 948 = .ok (.iinc 3 4, 3) := by decide +kernel
theorem dL_law_951 : decode cL_law 951 = .ok (.goto (-933), 3) := by decide +kernel
theorem dL_law_954 : decode cL_law 954 = .ok (.iconst 1, 1) := by decide +kernel
theorem dL_law_955 : decode cL_law 955 = .ok (.ireturn, 1) := by decide +kernel
end
section
/-! Words of the tables, by their places. -/
theorem inG0 : ∀ w ∈ u_ws RX0 TX0 11, w ∈ GW := gw_all _ [275, 277, 279, 281, 283, 285, 287, 289, 291, 293, 295] (by decide +kernel) (by decide +kernel)
theorem inG1 : ∀ w ∈ u_ws RX1 TX1 2, w ∈ GW := gw_all _ [307, 309] (by decide +kernel) (by decide +kernel)
theorem inG2 : ∀ w ∈ u_ws RX2 TX2 3, w ∈ GW := gw_all _ [185, 187, 189] (by decide +kernel) (by decide +kernel)
theorem inG3 : ∀ w ∈ u_ws RX3 TX3 12, w ∈ GW := gw_all _ [228, 230, 232, 234, 236, 238, 240, 242, 244, 246, 248, 250] (by decide +kernel) (by decide +kernel)
theorem inG4 : ∀ w ∈ u_ws RX4 TX4 12, w ∈ GW := gw_all _ [147, 149, 151, 153, 155, 157, 159, 161, 163, 165, 167, 169] (by decide +kernel) (by decide +kernel)
theorem inG5 : ∀ w ∈ u_ws RX5 TX5 6, w ∈ GW := gw_all _ [102, 104, 106, 108, 110, 112] (by decide +kernel) (by decide +kernel)
theorem inG6 : ∀ w ∈ u_ws RX6 TX6 9, w ∈ GW := gw_all _ [321, 323, 325, 327, 329, 331, 333, 335, 337] (by decide +kernel) (by decide +kernel)
theorem inG7 : ∀ w ∈ u_ws RX7 TX7 17, w ∈ GW := gw_all _ [820, 822, 824, 826, 828, 830, 832, 834, 836, 838, 840, 842, 844, 846, 848, 850, 852] (by decide +kernel) (by decide +kernel)
abbrev iX0_countDerived : Mi := (cX0_countDerived, RX0, 5, (some .int))
theorem ckX0_countDerived : CkM RX0 yX0_countDerived iX0_countDerived 1 := ⟨gw_all _ [683, 684, 69, 685] (by decide +kernel) (by decide +kernel), by decide +kernel, by decide⟩
abbrev iX0_enqueue : Mi := (cX0_enqueue, RX0, 2, none)
theorem ckX0_enqueue : CkM RX0 yX0_enqueue iX0_enqueue 1 := ⟨gw_all _ [688, 23, 69, 689] (by decide +kernel) (by decide +kernel), by decide +kernel, by decide⟩
abbrev iX0_findAll : Mi := (cX0_findAll, RX0, 4, none)
theorem ckX0_findAll : CkM RX0 yX0_findAll iX0_findAll 2 := ⟨gw_all _ [592, 593, 69, 594] (by decide +kernel) (by decide +kernel), by decide +kernel, by decide⟩
abbrev iX0_findEndowment : Mi := (cX0_findEndowment, RX0, 7, (some .boolean))
theorem ckX0_findEndowment : CkM RX0 yX0_findEndowment iX0_findEndowment 3 := ⟨gw_all _ [632, 17, 69, 633] (by decide +kernel) (by decide +kernel), by decide +kernel, by decide⟩
abbrev iX0_findGift : Mi := (cX0_findGift, RX0, 6, (some .boolean))
theorem ckX0_findGift : CkM RX0 yX0_findGift iX0_findGift 3 := ⟨gw_all _ [612, 13, 69, 613] (by decide +kernel) (by decide +kernel), by decide +kernel, by decide⟩
abbrev iX0_findInitial : Mi := (cX0_findInitial, RX0, 4, none)
theorem ckX0_findInitial : CkM RX0 yX0_findInitial iX0_findInitial 1 := ⟨gw_all _ [599, 11, 69, 600] (by decide +kernel) (by decide +kernel), by decide +kernel, by decide⟩
abbrev iX0_findOpenBox : Mi := (cX0_findOpenBox, RX0, 6, (some .int))
theorem ckX0_findOpenBox : CkM RX0 yX0_findOpenBox iX0_findOpenBox 3 := ⟨gw_all _ [628, 16, 69, 629] (by decide +kernel) (by decide +kernel), by decide +kernel, by decide⟩
abbrev iX0_findRound : Mi := (cX0_findRound, RX0, 6, (some .boolean))
theorem ckX0_findRound : CkM RX0 yX0_findRound iX0_findRound 2 := ⟨gw_all _ [608, 12, 69, 609] (by decide +kernel) (by decide +kernel), by decide +kernel, by decide⟩
abbrev iX0_findTaking : Mi := (cX0_findTaking, RX0, 7, (some .boolean))
theorem ckX0_findTaking : CkM RX0 yX0_findTaking iX0_findTaking 3 := ⟨gw_all _ [624, 15, 69, 625] (by decide +kernel) (by decide +kernel), by decide +kernel, by decide⟩
abbrev iX0_init : Mi := (cX0_init, RX0, 1, none)
abbrev iX0_publish : Mi := (cX0_publish, RX0, 5, none)
theorem ckX0_publish : CkM RX0 yX0_publish iX0_publish 2 := ⟨gw_all _ [636, 18, 69, 637] (by decide +kernel) (by decide +kernel), by decide +kernel, by decide⟩
abbrev iX0_setCause : Mi := (cX0_setCause, RX0, 6, none)
theorem ckX0_setCause : CkM RX0 yX0_setCause iX0_setCause 5 := ⟨gw_all _ [620, 14, 69, 621] (by decide +kernel) (by decide +kernel), by decide +kernel, by decide⟩
abbrev iX1_applyRules : Mi := (cX1_applyRules, RX1, 6, none)
theorem ckX1_applyRules : CkM RX1 yX1_applyRules iX1_applyRules 2 := ⟨gw_all _ [649, 19, 70, 650] (by decide +kernel) (by decide +kernel), by decide +kernel, by decide⟩
abbrev iX1_close : Mi := (cX1_close, RX1, 5, none)
theorem ckX1_close : CkM RX1 yX1_close iX1_close 2 := ⟨gw_all _ [644, 645, 70, 646] (by decide +kernel) (by decide +kernel), by decide +kernel, by decide⟩
abbrev iX1_grant : Mi := (cX1_grant, RX1, 3, none)
theorem ckX1_grant : CkM RX1 yX1_grant iX1_grant 2 := ⟨gw_all _ [655, 20, 70, 656] (by decide +kernel) (by decide +kernel), by decide +kernel, by decide⟩
abbrev iX1_init : Mi := (cX1_init, RX1, 1, none)
abbrev iX1_merge : Mi := (cX1_merge, RX1, 6, none)
theorem ckX1_merge : CkM RX1 yX1_merge iX1_merge 2 := ⟨gw_all _ [663, 22, 70, 664] (by decide +kernel) (by decide +kernel), by decide +kernel, by decide⟩
abbrev iX1_start : Mi := (cX1_start, RX1, 3, none)
theorem ckX1_start : CkM RX1 yX1_start iX1_start 2 := ⟨gw_all _ [639, 640, 70, 641] (by decide +kernel) (by decide +kernel), by decide +kernel, by decide⟩
abbrev iX1_takeFrom : Mi := (cX1_takeFrom, RX1, 4, none)
theorem ckX1_takeFrom : CkM RX1 yX1_takeFrom iX1_takeFrom 3 := ⟨gw_all _ [659, 21, 70, 660] (by decide +kernel) (by decide +kernel), by decide +kernel, by decide⟩
abbrev iX2_init : Mi := (cX2_init, RX2, 2, none)
abbrev iX2_restoreInto : Mi := (cX2_restoreInto, RX2, 2, none)
theorem ckX2_restoreInto : CkM RX2 yX2_restoreInto iX2_restoreInto 1 := ⟨gw_all _ [790, 791, 67, 792] (by decide +kernel) (by decide +kernel), by decide +kernel, by decide⟩
abbrev iX2_save : Mi := (cX2_save, RX2, 2, none)
theorem ckX2_save : CkM RX2 yX2_save iX2_save 1 := ⟨gw_all _ [481, 482, 67, 483] (by decide +kernel) (by decide +kernel), by decide +kernel, by decide⟩
abbrev iX3_agentsWith : Mi := (cX3_agentsWith, RX3, 4, (some .int))
theorem ckX3_agentsWith : CkS yX3_agentsWith iX3_agentsWith 2 := ⟨gw_all _ [568, 68, 569] (by decide +kernel) (by decide +kernel), by decide +kernel, by decide⟩
abbrev iX3_init : Mi := (cX3_init, RX3, 1, none)
abbrev iX3_readFrom : Mi := (cX3_readFrom, RX3, 3, none)
theorem ckX3_readFrom : CkM RX3 yX3_readFrom iX3_readFrom 1 := ⟨gw_all _ [564, 565, 68, 566] (by decide +kernel) (by decide +kernel), by decide +kernel, by decide⟩
abbrev iX3_readObject : Mi := (cX3_readObject, RX3, 5, none)
theorem ckX3_readObject : CkM RX3 yX3_readObject iX3_readObject 2 := ⟨gw_all _ [579, 10, 68, 580] (by decide +kernel) (by decide +kernel), by decide +kernel, by decide⟩
abbrev iX4_addRequirement : Mi := (cX4_addRequirement, RX4, 3, none)
theorem ckX4_addRequirement : CkM RX4 yX4_addRequirement iX4_addRequirement 2 := ⟨gw_all _ [707, 708, 66, 709] (by decide +kernel) (by decide +kernel), by decide +kernel, by decide⟩
abbrev iX4_addToRun : Mi := (cX4_addToRun, RX4, 4, (some .int))
theorem ckX4_addToRun : CkM RX4 yX4_addToRun iX4_addToRun 2 := ⟨gw_all _ [755, 756, 66, 757] (by decide +kernel) (by decide +kernel), by decide +kernel, by decide⟩
abbrev iX4_canHold : Mi := (cX4_canHold, RX4, 2, (some .boolean))
theorem ckX4_canHold : CkM RX4 yX4_canHold iX4_canHold 1 := ⟨gw_all _ [457, 458, 66, 459] (by decide +kernel) (by decide +kernel), by decide +kernel, by decide⟩
abbrev iX4_copyFrom : Mi := (cX4_copyFrom, RX4, 2, none)
theorem ckX4_copyFrom : CkM RX4 yX4_copyFrom iX4_copyFrom 1 := ⟨gw_all _ [485, 486, 66, 487] (by decide +kernel) (by decide +kernel), by decide +kernel, by decide⟩
abbrev iX4_countRun : Mi := (cX4_countRun, RX4, 3, (some .int))
theorem ckX4_countRun : CkM RX4 yX4_countRun iX4_countRun 0 := ⟨gw_all _ [778, 779, 66, 780] (by decide +kernel) (by decide +kernel), by decide +kernel, by decide⟩
abbrev iX4_countViolations : Mi := (cX4_countViolations, RX4, 4, (some .int))
theorem ckX4_countViolations : CkM RX4 yX4_countViolations iX4_countViolations 1 := ⟨gw_all _ [723, 724, 66, 725] (by decide +kernel) (by decide +kernel), by decide +kernel, by decide⟩
abbrev iX4_declareObject : Mi := (cX4_declareObject, RX4, 5, none)
theorem ckX4_declareObject : CkM RX4 yX4_declareObject iX4_declareObject 4 := ⟨gw_all _ [469, 470, 66, 471] (by decide +kernel) (by decide +kernel), by decide +kernel, by decide⟩
abbrev iX4_dropRequirement : Mi := (cX4_dropRequirement, RX4, 3, none)
theorem ckX4_dropRequirement : CkM RX4 yX4_dropRequirement iX4_dropRequirement 1 := ⟨gw_all _ [715, 716, 66, 717] (by decide +kernel) (by decide +kernel), by decide +kernel, by decide⟩
abbrev iX4_fillInitialRows : Mi := (cX4_fillInitialRows, RX4, 4, none)
theorem ckX4_fillInitialRows : CkM RX4 yX4_fillInitialRows iX4_fillInitialRows 2 := ⟨gw_all _ [500, 501, 66, 502] (by decide +kernel) (by decide +kernel), by decide +kernel, by decide⟩
abbrev iX4_findRequirement : Mi := (cX4_findRequirement, RX4, 4, (some .int))
theorem ckX4_findRequirement : CkM RX4 yX4_findRequirement iX4_findRequirement 2 := ⟨gw_all _ [703, 704, 66, 705] (by decide +kernel) (by decide +kernel), by decide +kernel, by decide⟩
abbrev iX4_fits : Mi := (cX4_fits, RX4, 3, (some .boolean))
theorem ckX4_fits : CkM RX4 yX4_fits iX4_fits 2 := ⟨gw_all _ [587, 588, 66, 589] (by decide +kernel) (by decide +kernel), by decide +kernel, by decide⟩
abbrev iX4_has : Mi := (cX4_has, RX4, 2, (some .boolean))
theorem ckX4_has : CkM RX4 yX4_has iX4_has 1 := ⟨gw_all _ [448, 449, 66, 450] (by decide +kernel) (by decide +kernel), by decide +kernel, by decide⟩
abbrev iX4_hasBoth : Mi := (cX4_hasBoth, RX4, 3, (some .boolean))
theorem ckX4_hasBoth : CkM RX4 yX4_hasBoth iX4_hasBoth 2 := ⟨gw_all _ [556, 557, 66, 558] (by decide +kernel) (by decide +kernel), by decide +kernel, by decide⟩
abbrev iX4_init : Mi := (cX4_init, RX4, 1, none)
abbrev iX4_isAgent : Mi := (cX4_isAgent, RX4, 2, (some .boolean))
theorem ckX4_isAgent : CkM RX4 yX4_isAgent iX4_isAgent 1 := ⟨gw_all _ [452, 453, 66, 454] (by decide +kernel) (by decide +kernel), by decide +kernel, by decide⟩
abbrev iX4_isAgentWith : Mi := (cX4_isAgentWith, RX4, 3, (some .boolean))
theorem ckX4_isAgentWith : CkM RX4 yX4_isAgentWith iX4_isAgentWith 2 := ⟨gw_all _ [571, 572, 66, 573] (by decide +kernel) (by decide +kernel), by decide +kernel, by decide⟩
abbrev iX4_isOfKind : Mi := (cX4_isOfKind, RX4, 3, (some .boolean))
theorem ckX4_isOfKind : CkM RX4 yX4_isOfKind iX4_isOfKind 2 := ⟨gw_all _ [582, 583, 66, 584] (by decide +kernel) (by decide +kernel), by decide +kernel, by decide⟩
abbrev iX4_listReference : Mi := (cX4_listReference, RX4, 3, none)
theorem ckX4_listReference : CkM RX4 yX4_listReference iX4_listReference 2 := ⟨gw_all _ [473, 474, 66, 475] (by decide +kernel) (by decide +kernel), by decide +kernel, by decide⟩
abbrev iX4_listsReference : Mi := (cX4_listsReference, RX4, 4, (some .boolean))
theorem ckX4_listsReference : CkM RX4 yX4_listsReference iX4_listsReference 2 := ⟨gw_all _ [461, 462, 66, 463] (by decide +kernel) (by decide +kernel), by decide +kernel, by decide⟩
abbrev iX4_reset : Mi := (cX4_reset, RX4, 1, none)
theorem ckX4_reset : CkM RX4 yX4_reset iX4_reset 0 := ⟨gw_all _ [357, 358, 66, 359] (by decide +kernel) (by decide +kernel), by decide +kernel, by decide⟩
abbrev iX4_runHolds : Mi := (cX4_runHolds, RX4, 3, (some .boolean))
theorem ckX4_runHolds : CkM RX4 yX4_runHolds iX4_runHolds 2 := ⟨gw_all _ [751, 752, 66, 753] (by decide +kernel) (by decide +kernel), by decide +kernel, by decide⟩
abbrev iX4_startRun : Mi := (cX4_startRun, RX4, 1, none)
theorem ckX4_startRun : CkM RX4 yX4_startRun iX4_startRun 0 := ⟨gw_all _ [496, 497, 66, 498] (by decide +kernel) (by decide +kernel), by decide +kernel, by decide⟩
abbrev iX4_unlistReference : Mi := (cX4_unlistReference, RX4, 3, none)
theorem ckX4_unlistReference : CkM RX4 yX4_unlistReference iX4_unlistReference 1 := ⟨gw_all _ [544, 545, 66, 546] (by decide +kernel) (by decide +kernel), by decide +kernel, by decide⟩
abbrev iX5_accepts : Mi := (cX5_accepts, RX5, 5, (some .boolean))
theorem ckX5_accepts : CkM RX5 yX5_accepts iX5_accepts 4 := ⟨gw_all _ [445, 6, 65, 446] (by decide +kernel) (by decide +kernel), by decide +kernel, by decide⟩
abbrev iX5_advance : Mi := (cX5_advance, RX5, 1, none)
theorem ckX5_advance : CkM RX5 yX5_advance iX5_advance 0 := ⟨gw_all _ [365, 0, 65, 366] (by decide +kernel) (by decide +kernel), by decide +kernel, by decide⟩
abbrev iX5_findStatement : Mi := (cX5_findStatement, RX5, 1, (some .int))
theorem ckX5_findStatement : CkM RX5 yX5_findStatement iX5_findStatement 0 := ⟨gw_all _ [376, 2, 65, 377] (by decide +kernel) (by decide +kernel), by decide +kernel, by decide⟩
abbrev iX5_init : Mi := (cX5_init, RX5, 1, none)
abbrev iX5_isFull : Mi := (cX5_isFull, RX5, 3, (some .boolean))
theorem ckX5_isFull : CkM RX5 yX5_isFull iX5_isFull 2 := ⟨gw_all _ [437, 4, 65, 438] (by decide +kernel) (by decide +kernel), by decide +kernel, by decide⟩
abbrev iX5_numberValue : Mi := (cX5_numberValue, RX5, 2, (some .int))
theorem ckX5_numberValue : CkM RX5 yX5_numberValue iX5_numberValue 0 := ⟨gw_all _ [441, 5, 65, 442] (by decide +kernel) (by decide +kernel), by decide +kernel, by decide⟩
abbrev iX5_perform : Mi := (cX5_perform, RX5, 3, none)
theorem ckX5_perform : CkM RX5 yX5_perform iX5_perform 2 := ⟨gw_all _ [466, 7, 65, 467] (by decide +kernel) (by decide +kernel), by decide +kernel, by decide⟩
abbrev iX5_readInto : Mi := (cX5_readInto, RX5, 3, (some .int))
theorem ckX5_readInto : CkM RX5 yX5_readInto iX5_readInto 1 := ⟨gw_all _ [353, 354, 65, 355] (by decide +kernel) (by decide +kernel), by decide +kernel, by decide⟩
abbrev iX5_readStatement : Mi := (cX5_readStatement, RX5, 6, (some .boolean))
theorem ckX5_readStatement : CkM RX5 yX5_readStatement iX5_readStatement 1 := ⟨gw_all _ [372, 1, 65, 373] (by decide +kernel) (by decide +kernel), by decide +kernel, by decide⟩
abbrev iX5_tokenIs : Mi := (cX5_tokenIs, RX5, 3, (some .boolean))
theorem ckX5_tokenIs : CkM RX5 yX5_tokenIs iX5_tokenIs 1 := ⟨gw_all _ [381, 3, 65, 382] (by decide +kernel) (by decide +kernel), by decide +kernel, by decide⟩
abbrev iX5_typeOf : Mi := (cX5_typeOf, RX5, 1, (some .int))
theorem ckX5_typeOf : CkS yX5_typeOf iX5_typeOf 1 := ⟨gw_all _ [368, 65, 369] (by decide +kernel) (by decide +kernel), by decide +kernel, by decide⟩
abbrev iX6_addReference : Mi := (cX6_addReference, RX6, 3, (some .int))
theorem ckX6_addReference : CkM RX6 yX6_addReference iX6_addReference 2 := ⟨gw_all _ [533, 534, 64, 535] (by decide +kernel) (by decide +kernel), by decide +kernel, by decide⟩
abbrev iX6_append : Mi := (cX6_append, RX6, 2, (some .int))
theorem ckX6_append : CkM RX6 yX6_append iX6_append 1 := ⟨gw_all _ [341, 342, 64, 343] (by decide +kernel) (by decide +kernel), by decide +kernel, by decide⟩
abbrev iX6_behaviour : Mi := (cX6_behaviour, RX6, 2, (some .int))
theorem ckX6_behaviour : CkM RX6 yX6_behaviour iX6_behaviour 1 := ⟨gw_all _ [520, 521, 64, 522] (by decide +kernel) (by decide +kernel), by decide +kernel, by decide⟩
abbrev iX6_bit : Mi := (cX6_bit, RX6, 1, (some .int))
theorem ckX6_bit : CkS yX6_bit iX6_bit 1 := ⟨gw_all _ [507, 64, 508] (by decide +kernel) (by decide +kernel), by decide +kernel, by decide⟩
abbrev iX6_clearText : Mi := (cX6_clearText, RX6, 2, (some .int))
theorem ckX6_clearText : CkM RX6 yX6_clearText iX6_clearText 0 := ⟨gw_all _ [345, 346, 64, 347] (by decide +kernel) (by decide +kernel), by decide +kernel, by decide⟩
abbrev iX6_coarselyMayHold : Mi := (cX6_coarselyMayHold, RX6, 3, (some .int))
theorem ckX6_coarselyMayHold : CkM RX6 yX6_coarselyMayHold iX6_coarselyMayHold 2 := ⟨gw_all _ [695, 696, 64, 697] (by decide +kernel) (by decide +kernel), by decide +kernel, by decide⟩
abbrev iX6_contains : Mi := (cX6_contains, RX6, 2, (some .boolean))
theorem ckX6_contains : CkS yX6_contains iX6_contains 2 := ⟨gw_all _ [504, 64, 505] (by decide +kernel) (by decide +kernel), by decide +kernel, by decide⟩
abbrev iX6_create : Mi := (cX6_create, RX6, 6, (some .int))
theorem ckX6_create : CkM RX6 yX6_create iX6_create 2 := ⟨gw_all _ [769, 770, 64, 771] (by decide +kernel) (by decide +kernel), by decide +kernel, by decide⟩
abbrev iX6_derivationSize : Mi := (cX6_derivationSize, RX6, 3, (some .int))
theorem ckX6_derivationSize : CkM RX6 yX6_derivationSize iX6_derivationSize 2 := ⟨gw_all _ [679, 680, 64, 681] (by decide +kernel) (by decide +kernel), by decide +kernel, by decide⟩
abbrev iX6_findNeeded : Mi := (cX6_findNeeded, RX6, 4, (some .int))
theorem ckX6_findNeeded : CkM RX6 yX6_findNeeded iX6_findNeeded 1 := ⟨gw_all _ [732, 24, 64, 733] (by decide +kernel) (by decide +kernel), by decide +kernel, by decide⟩
abbrev iX6_forbid : Mi := (cX6_forbid, RX6, 3, (some .int))
theorem ckX6_forbid : CkM RX6 yX6_forbid iX6_forbid 2 := ⟨gw_all _ [699, 700, 64, 701] (by decide +kernel) (by decide +kernel), by decide +kernel, by decide⟩
abbrev iX6_give : Mi := (cX6_give, RX6, 4, (some .int))
theorem ckX6_give : CkM RX6 yX6_give iX6_give 3 := ⟨gw_all _ [746, 747, 64, 748] (by decide +kernel) (by decide +kernel), by decide +kernel, by decide⟩
abbrev iX6_holdsInRun : Mi := (cX6_holdsInRun, RX6, 3, (some .int))
theorem ckX6_holdsInRun : CkM RX6 yX6_holdsInRun iX6_holdsInRun 2 := ⟨gw_all _ [782, 783, 64, 784] (by decide +kernel) (by decide +kernel), by decide +kernel, by decide⟩
abbrev iX6_init : Mi := (cX6_init, RX6, 1, none)
abbrev iX6_isRepair : Mi := (cX6_isRepair, RX6, 2, (some .boolean))
theorem ckX6_isRepair : CkM RX6 yX6_isRepair iX6_isRepair 1 := ⟨gw_all _ [737, 25, 64, 738] (by decide +kernel) (by decide +kernel), by decide +kernel, by decide⟩
abbrev iX6_kind : Mi := (cX6_kind, RX6, 2, (some .int))
theorem ckX6_kind : CkM RX6 yX6_kind iX6_kind 1 := ⟨gw_all _ [515, 516, 64, 517] (by decide +kernel) (by decide +kernel), by decide +kernel, by decide⟩
abbrev iX6_lastRound : Mi := (cX6_lastRound, RX6, 1, (some .int))
theorem ckX6_lastRound : CkM RX6 yX6_lastRound iX6_lastRound 0 := ⟨gw_all _ [691, 692, 64, 693] (by decide +kernel) (by decide +kernel), by decide +kernel, by decide⟩
abbrev iX6_load : Mi := (cX6_load, RX6, 2, (some .int))
theorem ckX6_load : CkM RX6 yX6_load iX6_load 0 := ⟨gw_all _ [349, 350, 64, 351] (by decide +kernel) (by decide +kernel), by decide +kernel, by decide⟩
abbrev iX6_lowest : Mi := (cX6_lowest, RX6, 2, (some .int))
theorem ckX6_lowest : CkS yX6_lowest iX6_lowest 1 := ⟨gw_all _ [615, 64, 616] (by decide +kernel) (by decide +kernel), by decide +kernel, by decide⟩
abbrev iX6_mayHold : Mi := (cX6_mayHold, RX6, 3, (some .int))
theorem ckX6_mayHold : CkM RX6 yX6_mayHold iX6_mayHold 2 := ⟨gw_all _ [552, 553, 64, 554] (by decide +kernel) (by decide +kernel), by decide +kernel, by decide⟩
abbrev iX6_objectCount : Mi := (cX6_objectCount, RX6, 1, (some .int))
theorem ckX6_objectCount : CkM RX6 yX6_objectCount iX6_objectCount 0 := ⟨gw_all _ [511, 512, 64, 513] (by decide +kernel) (by decide +kernel), by decide +kernel, by decide⟩
abbrev iX6_open : Mi := (cX6_open, RX6, 4, (some .int))
theorem ckX6_open : CkM RX6 yX6_open iX6_open 3 := ⟨gw_all _ [764, 765, 64, 766] (by decide +kernel) (by decide +kernel), by decide +kernel, by decide⟩
abbrev iX6_pair : Mi := (cX6_pair, RX6, 2, (some .int))
theorem ckX6_pair : CkS yX6_pair iX6_pair 2 := ⟨gw_all _ [603, 64, 604] (by decide +kernel) (by decide +kernel), by decide +kernel, by decide⟩
abbrev iX6_partner : Mi := (cX6_partner, RX6, 3, (some .int))
theorem ckX6_partner : CkM RX6 yX6_partner iX6_partner 2 := ⟨gw_all _ [675, 676, 64, 677] (by decide +kernel) (by decide +kernel), by decide +kernel, by decide⟩
abbrev iX6_permit : Mi := (cX6_permit, RX6, 4, (some .int))
theorem ckX6_permit : CkM RX6 yX6_permit iX6_permit 2 := ⟨gw_all _ [711, 712, 64, 713] (by decide +kernel) (by decide +kernel), by decide +kernel, by decide⟩
abbrev iX6_referenceCount : Mi := (cX6_referenceCount, RX6, 1, (some .int))
theorem ckX6_referenceCount : CkM RX6 yX6_referenceCount iX6_referenceCount 0 := ⟨gw_all _ [548, 549, 64, 550] (by decide +kernel) (by decide +kernel), by decide +kernel, by decide⟩
abbrev iX6_refreshAnalysis : Mi := (cX6_refreshAnalysis, RX6, 1, none)
theorem ckX6_refreshAnalysis : CkM RX6 yX6_refreshAnalysis iX6_refreshAnalysis 0 := ⟨gw_all _ [561, 9, 64, 562] (by decide +kernel) (by decide +kernel), by decide +kernel, by decide⟩
abbrev iX6_removeReference : Mi := (cX6_removeReference, RX6, 2, (some .int))
theorem ckX6_removeReference : CkM RX6 yX6_removeReference iX6_removeReference 1 := ⟨gw_all _ [540, 541, 64, 542] (by decide +kernel) (by decide +kernel), by decide +kernel, by decide⟩
abbrev iX6_restartRun : Mi := (cX6_restartRun, RX6, 2, (some .int))
theorem ckX6_restartRun : CkM RX6 yX6_restartRun iX6_restartRun 0 := ⟨gw_all _ [774, 775, 64, 776] (by decide +kernel) (by decide +kernel), by decide +kernel, by decide⟩
abbrev iX6_round : Mi := (cX6_round, RX6, 3, (some .int))
theorem ckX6_round : CkM RX6 yX6_round iX6_round 2 := ⟨gw_all _ [666, 667, 64, 668] (by decide +kernel) (by decide +kernel), by decide +kernel, by decide⟩
abbrev iX6_rule : Mi := (cX6_rule, RX6, 3, (some .int))
theorem ckX6_rule : CkM RX6 yX6_rule iX6_rule 2 := ⟨gw_all _ [671, 672, 64, 673] (by decide +kernel) (by decide +kernel), by decide +kernel, by decide⟩
abbrev iX6_saveState : Mi := (cX6_saveState, RX6, 1, none)
theorem ckX6_saveState : CkM RX6 yX6_saveState iX6_saveState 0 := ⟨gw_all _ [478, 8, 64, 479] (by decide +kernel) (by decide +kernel), by decide +kernel, by decide⟩
abbrev iX6_setBehaviour : Mi := (cX6_setBehaviour, RX6, 4, (some .int))
theorem ckX6_setBehaviour : CkM RX6 yX6_setBehaviour iX6_setBehaviour 2 := ⟨gw_all _ [525, 526, 64, 527] (by decide +kernel) (by decide +kernel), by decide +kernel, by decide⟩
abbrev iX6_setGroup : Mi := (cX6_setGroup, RX6, 4, (some .int))
theorem ckX6_setGroup : CkM RX6 yX6_setGroup iX6_setGroup 2 := ⟨gw_all _ [529, 530, 64, 531] (by decide +kernel) (by decide +kernel), by decide +kernel, by decide⟩
abbrev iX6_smallestRepair : Mi := (cX6_smallestRepair, RX6, 6, (some .int))
theorem ckX6_smallestRepair : CkM RX6 yX6_smallestRepair iX6_smallestRepair 0 := ⟨gw_all _ [727, 728, 64, 729] (by decide +kernel) (by decide +kernel), by decide +kernel, by decide⟩
abbrev iX6_take : Mi := (cX6_take, RX6, 4, (some .int))
theorem ckX6_take : CkM RX6 yX6_take iX6_take 3 := ⟨gw_all _ [760, 761, 64, 762] (by decide +kernel) (by decide +kernel), by decide +kernel, by decide⟩
abbrev iX6_undo : Mi := (cX6_undo, RX6, 1, (some .int))
theorem ckX6_undo : CkM RX6 yX6_undo iX6_undo 0 := ⟨gw_all _ [786, 787, 64, 788] (by decide +kernel) (by decide +kernel), by decide +kernel, by decide⟩
abbrev iX6_undoDepth : Mi := (cX6_undoDepth, RX6, 1, (some .int))
theorem ckX6_undoDepth : CkM RX6 yX6_undoDepth iX6_undoDepth 0 := ⟨gw_all _ [794, 795, 64, 796] (by decide +kernel) (by decide +kernel), by decide +kernel, by decide⟩
abbrev iX6_violationCount : Mi := (cX6_violationCount, RX6, 1, (some .int))
theorem ckX6_violationCount : CkM RX6 yX6_violationCount iX6_violationCount 0 := ⟨gw_all _ [719, 720, 64, 721] (by decide +kernel) (by decide +kernel), by decide +kernel, by decide⟩
abbrev iX7_addReference : Mi := (cX7_addReference, RX7, 3, (some .int))
theorem ckX7_addReference : CkM RX7 yX7_addReference iX7_addReference 2 := ⟨gw_all _ [954, 955, 71, 956] (by decide +kernel) (by decide +kernel), by decide +kernel, by decide⟩
abbrev iX7_advance : Mi := (cX7_advance, RX7, 3, none)
theorem ckX7_advance : CkM RX7 yX7_advance iX7_advance 0 := ⟨gw_all _ [873, 26, 71, 874] (by decide +kernel) (by decide +kernel), by decide +kernel, by decide⟩
abbrev iX7_analyse : Mi := (cX7_analyse, RX7, 3, none)
theorem ckX7_analyse : CkM RX7 yX7_analyse iX7_analyse 1 := ⟨gw_all _ [979, 42, 71, 980] (by decide +kernel) (by decide +kernel), by decide +kernel, by decide⟩
abbrev iX7_answerer : Mi := (cX7_answerer, RX7, 5, (some .int))
theorem ckX7_answerer : CkM RX7 yX7_answerer iX7_answerer 3 := ⟨gw_all _ [1010, 49, 71, 1011] (by decide +kernel) (by decide +kernel), by decide +kernel, by decide⟩
abbrev iX7_append : Mi := (cX7_append, RX7, 2, (some .int))
theorem ckX7_append : CkM RX7 yX7_append iX7_append 1 := ⟨gw_all _ [857, 858, 71, 859] (by decide +kernel) (by decide +kernel), by decide +kernel, by decide⟩
abbrev iX7_areObjects : Mi := (cX7_areObjects, RX7, 3, (some .boolean))
theorem ckX7_areObjects : CkM RX7 yX7_areObjects iX7_areObjects 2 := ⟨gw_all _ [971, 40, 71, 972] (by decide +kernel) (by decide +kernel), by decide +kernel, by decide⟩
abbrev iX7_beginRun : Mi := (cX7_beginRun, RX7, 2, none)
theorem ckX7_beginRun : CkM RX7 yX7_beginRun iX7_beginRun 0 := ⟨gw_all _ [919, 36, 71, 920] (by decide +kernel) (by decide +kernel), by decide +kernel, by decide⟩
abbrev iX7_behaviour : Mi := (cX7_behaviour, RX7, 2, (some .int))
theorem ckX7_behaviour : CkM RX7 yX7_behaviour iX7_behaviour 1 := ⟨gw_all _ [934, 935, 71, 936] (by decide +kernel) (by decide +kernel), by decide +kernel, by decide⟩
abbrev iX7_bitCount : Mi := (cX7_bitCount, RX7, 3, (some .int))
theorem ckX7_bitCount : CkS yX7_bitCount iX7_bitCount 1 := ⟨gw_all _ [1097, 71, 1098] (by decide +kernel) (by decide +kernel), by decide +kernel, by decide⟩
abbrev iX7_change : Mi := (cX7_change, RX7, 4, (some .int))
theorem ckX7_change : CkM RX7 yX7_change iX7_change 2 := ⟨gw_all _ [947, 39, 71, 948] (by decide +kernel) (by decide +kernel), by decide +kernel, by decide⟩
abbrev iX7_characterAt : Mi := (cX7_characterAt, RX7, 2, (some .int))
theorem ckX7_characterAt : CkM RX7 yX7_characterAt iX7_characterAt 1 := ⟨gw_all _ [877, 27, 71, 878] (by decide +kernel) (by decide +kernel), by decide +kernel, by decide⟩
abbrev iX7_clearText : Mi := (cX7_clearText, RX7, 2, (some .int))
theorem ckX7_clearText : CkM RX7 yX7_clearText iX7_clearText 0 := ⟨gw_all _ [864, 865, 71, 866] (by decide +kernel) (by decide +kernel), by decide +kernel, by decide⟩
abbrev iX7_coarselyMayHold : Mi := (cX7_coarselyMayHold, RX7, 6, (some .int))
theorem ckX7_coarselyMayHold : CkM RX7 yX7_coarselyMayHold iX7_coarselyMayHold 2 := ⟨gw_all _ [1061, 1062, 71, 1063] (by decide +kernel) (by decide +kernel), by decide +kernel, by decide⟩
abbrev iX7_create : Mi := (cX7_create, RX7, 5, (some .int))
theorem ckX7_create : CkM RX7 yX7_create iX7_create 2 := ⟨gw_all _ [1120, 1121, 71, 1122] (by decide +kernel) (by decide +kernel), by decide +kernel, by decide⟩
abbrev iX7_creator : Mi := (cX7_creator, RX7, 5, (some .int))
theorem ckX7_creator : CkM RX7 yX7_creator iX7_creator 3 := ⟨gw_all _ [1022, 52, 71, 1023] (by decide +kernel) (by decide +kernel), by decide +kernel, by decide⟩
abbrev iX7_derivationSize : Mi := (cX7_derivationSize, RX7, 5, (some .int))
theorem ckX7_derivationSize : CkM RX7 yX7_derivationSize iX7_derivationSize 2 := ⟨gw_all _ [1045, 1046, 71, 1047] (by decide +kernel) (by decide +kernel), by decide +kernel, by decide⟩
abbrev iX7_derive : Mi := (cX7_derive, RX7, 4, none)
theorem ckX7_derive : CkM RX7 yX7_derive iX7_derive 2 := ⟨gw_all _ [1050, 55, 71, 1051] (by decide +kernel) (by decide +kernel), by decide +kernel, by decide⟩
abbrev iX7_derivePremises : Mi := (cX7_derivePremises, RX7, 6, none)
theorem ckX7_derivePremises : CkM RX7 yX7_derivePremises iX7_derivePremises 2 := ⟨gw_all _ [1054, 56, 71, 1055] (by decide +kernel) (by decide +kernel), by decide +kernel, by decide⟩
abbrev iX7_does : Mi := (cX7_does, RX7, 3, (some .boolean))
theorem ckX7_does : CkM RX7 yX7_does iX7_does 2 := ⟨gw_all _ [1002, 47, 71, 1003] (by decide +kernel) (by decide +kernel), by decide +kernel, by decide⟩
abbrev iX7_endower : Mi := (cX7_endower, RX7, 5, (some .int))
theorem ckX7_endower : CkM RX7 yX7_endower iX7_endower 3 := ⟨gw_all _ [1026, 53, 71, 1027] (by decide +kernel) (by decide +kernel), by decide +kernel, by decide⟩
abbrev iX7_findRound : Mi := (cX7_findRound, RX7, 5, (some .boolean))
theorem ckX7_findRound : CkM RX7 yX7_findRound iX7_findRound 1 := ⟨gw_all _ [986, 43, 71, 987] (by decide +kernel) (by decide +kernel), by decide +kernel, by decide⟩
abbrev iX7_forbid : Mi := (cX7_forbid, RX7, 3, (some .int))
theorem ckX7_forbid : CkM RX7 yX7_forbid iX7_forbid 2 := ⟨gw_all _ [1073, 1074, 71, 1075] (by decide +kernel) (by decide +kernel), by decide +kernel, by decide⟩
abbrev iX7_give : Mi := (cX7_give, RX7, 4, (some .int))
theorem ckX7_give : CkM RX7 yX7_give iX7_give 3 := ⟨gw_all _ [1100, 1101, 71, 1102] (by decide +kernel) (by decide +kernel), by decide +kernel, by decide⟩
abbrev iX7_giver : Mi := (cX7_giver, RX7, 5, (some .int))
theorem ckX7_giver : CkM RX7 yX7_giver iX7_giver 3 := ⟨gw_all _ [998, 46, 71, 999] (by decide +kernel) (by decide +kernel), by decide +kernel, by decide⟩
abbrev iX7_has : Mi := (cX7_has, RX7, 2, (some .boolean))
theorem ckX7_has : CkS yX7_has iX7_has 2 := ⟨gw_all _ [982, 71, 983] (by decide +kernel) (by decide +kernel), by decide +kernel, by decide⟩
abbrev iX7_holds : Mi := (cX7_holds, RX7, 3, (some .boolean))
theorem ckX7_holds : CkM RX7 yX7_holds iX7_holds 2 := ⟨gw_all _ [1105, 61, 71, 1106] (by decide +kernel) (by decide +kernel), by decide +kernel, by decide⟩
abbrev iX7_holdsInRun : Mi := (cX7_holdsInRun, RX7, 3, (some .int))
theorem ckX7_holdsInRun : CkM RX7 yX7_holdsInRun iX7_holdsInRun 2 := ⟨gw_all _ [1128, 1129, 71, 1130] (by decide +kernel) (by decide +kernel), by decide +kernel, by decide⟩
abbrev iX7_in : Mi := (cX7_in, RX7, 3, (some .boolean))
theorem ckX7_in : CkS yX7_in iX7_in 3 := ⟨gw_all _ [861, 71, 862] (by decide +kernel) (by decide +kernel), by decide +kernel, by decide⟩
abbrev iX7_indexOf : Mi := (cX7_indexOf, RX7, 4, (some .int))
theorem ckX7_indexOf : CkS yX7_indexOf iX7_indexOf 3 := ⟨gw_all _ [903, 71, 904] (by decide +kernel) (by decide +kernel), by decide +kernel, by decide⟩
abbrev iX7_init : Mi := (cX7_init, RX7, 1, none)
abbrev iX7_isFine : Mi := (cX7_isFine, RX7, 1, (some .boolean))
theorem ckX7_isFine : CkM RX7 yX7_isFine iX7_isFine 0 := ⟨gw_all _ [889, 30, 71, 890] (by decide +kernel) (by decide +kernel), by decide +kernel, by decide⟩
abbrev iX7_isFound : Mi := (cX7_isFound, RX7, 5, (some .boolean))
theorem ckX7_isFound : CkM RX7 yX7_isFound iX7_isFound 3 := ⟨gw_all _ [1006, 48, 71, 1007] (by decide +kernel) (by decide +kernel), by decide +kernel, by decide⟩
abbrev iX7_isHolder : Mi := (cX7_isHolder, RX7, 2, (some .boolean))
theorem ckX7_isHolder : CkS yX7_isHolder iX7_isHolder 2 := ⟨gw_all _ [900, 71, 901] (by decide +kernel) (by decide +kernel), by decide +kernel, by decide⟩
abbrev iX7_isLetter : Mi := (cX7_isLetter, RX7, 3, (some .boolean))
theorem ckX7_isLetter : CkM RX7 yX7_isLetter iX7_isLetter 2 := ⟨gw_all _ [885, 29, 71, 886] (by decide +kernel) (by decide +kernel), by decide +kernel, by decide⟩
abbrev iX7_isObject : Mi := (cX7_isObject, RX7, 2, (some .boolean))
theorem ckX7_isObject : CkM RX7 yX7_isObject iX7_isObject 1 := ⟨gw_all _ [931, 37, 71, 932] (by decide +kernel) (by decide +kernel), by decide +kernel, by decide⟩
abbrev iX7_isOf : Mi := (cX7_isOf, RX7, 3, (some .boolean))
theorem ckX7_isOf : CkM RX7 yX7_isOf iX7_isOf 2 := ⟨gw_all _ [939, 38, 71, 940] (by decide +kernel) (by decide +kernel), by decide +kernel, by decide⟩
abbrev iX7_keyOf : Mi := (cX7_keyOf, RX7, 5, (some .int))
theorem ckX7_keyOf : CkM RX7 yX7_keyOf iX7_keyOf 3 := ⟨gw_all _ [1018, 51, 71, 1019] (by decide +kernel) (by decide +kernel), by decide +kernel, by decide⟩
abbrev iX7_keyword : Mi := (cX7_keyword, RX7, 3, (some .int))
theorem ckX7_keyword : CkM RX7 yX7_keyword iX7_keyword 0 := ⟨gw_all _ [881, 28, 71, 882] (by decide +kernel) (by decide +kernel), by decide +kernel, by decide⟩
abbrev iX7_kind : Mi := (cX7_kind, RX7, 2, (some .int))
theorem ckX7_kind : CkM RX7 yX7_kind iX7_kind 1 := ⟨gw_all _ [926, 927, 71, 928] (by decide +kernel) (by decide +kernel), by decide +kernel, by decide⟩
abbrev iX7_lastRound : Mi := (cX7_lastRound, RX7, 1, (some .int))
theorem ckX7_lastRound : CkM RX7 yX7_lastRound iX7_lastRound 0 := ⟨gw_all _ [1057, 1058, 71, 1059] (by decide +kernel) (by decide +kernel), by decide +kernel, by decide⟩
abbrev iX7_load : Mi := (cX7_load, RX7, 3, (some .int))
theorem ckX7_load : CkM RX7 yX7_load iX7_load 0 := ⟨gw_all _ [868, 869, 71, 870] (by decide +kernel) (by decide +kernel), by decide +kernel, by decide⟩
abbrev iX7_mayHold : Mi := (cX7_mayHold, RX7, 3, (some .int))
theorem ckX7_mayHold : CkM RX7 yX7_mayHold iX7_mayHold 2 := ⟨gw_all _ [966, 967, 71, 968] (by decide +kernel) (by decide +kernel), by decide +kernel, by decide⟩
abbrev iX7_merge : Mi := (cX7_merge, RX7, 5, (some .boolean))
theorem ckX7_merge : CkM RX7 yX7_merge iX7_merge 0 := ⟨gw_all _ [1066, 57, 71, 1067] (by decide +kernel) (by decide +kernel), by decide +kernel, by decide⟩
abbrev iX7_mergeGroups : Mi := (cX7_mergeGroups, RX7, 7, (some .boolean))
theorem ckX7_mergeGroups : CkM RX7 yX7_mergeGroups iX7_mergeGroups 2 := ⟨gw_all _ [1070, 58, 71, 1071] (by decide +kernel) (by decide +kernel), by decide +kernel, by decide⟩
abbrev iX7_number : Mi := (cX7_number, RX7, 2, (some .int))
theorem ckX7_number : CkM RX7 yX7_number iX7_number 1 := ⟨gw_all _ [911, 34, 71, 912] (by decide +kernel) (by decide +kernel), by decide +kernel, by decide⟩
abbrev iX7_objectCount : Mi := (cX7_objectCount, RX7, 1, (some .int))
theorem ckX7_objectCount : CkM RX7 yX7_objectCount iX7_objectCount 0 := ⟨gw_all _ [922, 923, 71, 924] (by decide +kernel) (by decide +kernel), by decide +kernel, by decide⟩
abbrev iX7_open : Mi := (cX7_open, RX7, 4, (some .int))
theorem ckX7_open : CkM RX7 yX7_open iX7_open 3 := ⟨gw_all _ [1116, 1117, 71, 1118] (by decide +kernel) (by decide +kernel), by decide +kernel, by decide⟩
abbrev iX7_openedBox : Mi := (cX7_openedBox, RX7, 5, (some .int))
theorem ckX7_openedBox : CkM RX7 yX7_openedBox iX7_openedBox 3 := ⟨gw_all _ [1014, 50, 71, 1015] (by decide +kernel) (by decide +kernel), by decide +kernel, by decide⟩
abbrev iX7_partner : Mi := (cX7_partner, RX7, 4, (some .int))
theorem ckX7_partner : CkM RX7 yX7_partner iX7_partner 2 := ⟨gw_all _ [1041, 1042, 71, 1043] (by decide +kernel) (by decide +kernel), by decide +kernel, by decide⟩
abbrev iX7_partnerBy : Mi := (cX7_partnerBy, RX7, 5, (some .int))
theorem ckX7_partnerBy : CkM RX7 yX7_partnerBy iX7_partnerBy 4 := ⟨gw_all _ [994, 45, 71, 995] (by decide +kernel) (by decide +kernel), by decide +kernel, by decide⟩
abbrev iX7_permit : Mi := (cX7_permit, RX7, 5, (some .int))
theorem ckX7_permit : CkM RX7 yX7_permit iX7_permit 2 := ⟨gw_all _ [1081, 1082, 71, 1083] (by decide +kernel) (by decide +kernel), by decide +kernel, by decide⟩
abbrev iX7_readHold : Mi := (cX7_readHold, RX7, 3, none)
theorem ckX7_readHold : CkM RX7 yX7_readHold iX7_readHold 0 := ⟨gw_all _ [897, 32, 71, 898] (by decide +kernel) (by decide +kernel), by decide +kernel, by decide⟩
abbrev iX7_readObject : Mi := (cX7_readObject, RX7, 6, none)
theorem ckX7_readObject : CkM RX7 yX7_readObject iX7_readObject 1 := ⟨gw_all _ [907, 33, 71, 908] (by decide +kernel) (by decide +kernel), by decide +kernel, by decide⟩
abbrev iX7_referenceCount : Mi := (cX7_referenceCount, RX7, 1, (some .int))
theorem ckX7_referenceCount : CkM RX7 yX7_referenceCount iX7_referenceCount 0 := ⟨gw_all _ [962, 963, 71, 964] (by decide +kernel) (by decide +kernel), by decide +kernel, by decide⟩
abbrev iX7_removeReference : Mi := (cX7_removeReference, RX7, 3, (some .int))
theorem ckX7_removeReference : CkM RX7 yX7_removeReference iX7_removeReference 1 := ⟨gw_all _ [958, 959, 71, 960] (by decide +kernel) (by decide +kernel), by decide +kernel, by decide⟩
abbrev iX7_requirementOf : Mi := (cX7_requirementOf, RX7, 4, (some .int))
theorem ckX7_requirementOf : CkM RX7 yX7_requirementOf iX7_requirementOf 2 := ⟨gw_all _ [1078, 59, 71, 1079] (by decide +kernel) (by decide +kernel), by decide +kernel, by decide⟩
abbrev iX7_restartRun : Mi := (cX7_restartRun, RX7, 3, (some .int))
theorem ckX7_restartRun : CkM RX7 yX7_restartRun iX7_restartRun 0 := ⟨gw_all _ [1124, 1125, 71, 1126] (by decide +kernel) (by decide +kernel), by decide +kernel, by decide⟩
abbrev iX7_round : Mi := (cX7_round, RX7, 3, (some .int))
theorem ckX7_round : CkM RX7 yX7_round iX7_round 2 := ⟨gw_all _ [1033, 1034, 71, 1035] (by decide +kernel) (by decide +kernel), by decide +kernel, by decide⟩
abbrev iX7_roundOf : Mi := (cX7_roundOf, RX7, 3, (some .int))
theorem ckX7_roundOf : CkM RX7 yX7_roundOf iX7_roundOf 2 := ⟨gw_all _ [975, 41, 71, 976] (by decide +kernel) (by decide +kernel), by decide +kernel, by decide⟩
abbrev iX7_rule : Mi := (cX7_rule, RX7, 4, (some .int))
theorem ckX7_rule : CkM RX7 yX7_rule iX7_rule 2 := ⟨gw_all _ [1037, 1038, 71, 1039] (by decide +kernel) (by decide +kernel), by decide +kernel, by decide⟩
abbrev iX7_ruleFor : Mi := (cX7_ruleFor, RX7, 5, (some .int))
theorem ckX7_ruleFor : CkM RX7 yX7_ruleFor iX7_ruleFor 3 := ⟨gw_all _ [990, 44, 71, 991] (by decide +kernel) (by decide +kernel), by decide +kernel, by decide⟩
abbrev iX7_save : Mi := (cX7_save, RX7, 2, none)
theorem ckX7_save : CkM RX7 yX7_save iX7_save 0 := ⟨gw_all _ [915, 35, 71, 916] (by decide +kernel) (by decide +kernel), by decide +kernel, by decide⟩
abbrev iX7_saveAndHold : Mi := (cX7_saveAndHold, RX7, 4, (some .int))
theorem ckX7_saveAndHold : CkM RX7 yX7_saveAndHold iX7_saveAndHold 2 := ⟨gw_all _ [1109, 62, 71, 1110] (by decide +kernel) (by decide +kernel), by decide +kernel, by decide⟩
abbrev iX7_setBehaviour : Mi := (cX7_setBehaviour, RX7, 3, (some .int))
theorem ckX7_setBehaviour : CkM RX7 yX7_setBehaviour iX7_setBehaviour 2 := ⟨gw_all _ [942, 943, 71, 944] (by decide +kernel) (by decide +kernel), by decide +kernel, by decide⟩
abbrev iX7_setGroup : Mi := (cX7_setGroup, RX7, 3, (some .int))
theorem ckX7_setGroup : CkM RX7 yX7_setGroup iX7_setGroup 2 := ⟨gw_all _ [950, 951, 71, 952] (by decide +kernel) (by decide +kernel), by decide +kernel, by decide⟩
abbrev iX7_smallestRepair : Mi := (cX7_smallestRepair, RX7, 4, (some .int))
theorem ckX7_smallestRepair : CkM RX7 yX7_smallestRepair iX7_smallestRepair 0 := ⟨gw_all _ [1093, 1094, 71, 1095] (by decide +kernel) (by decide +kernel), by decide +kernel, by decide⟩
abbrev iX7_take : Mi := (cX7_take, RX7, 3, (some .int))
theorem ckX7_take : CkM RX7 yX7_take iX7_take 1 := ⟨gw_all _ [893, 31, 71, 894] (by decide +kernel) (by decide +kernel), by decide +kernel, by decide⟩
abbrev iX7_take_ : Mi := (cX7_take_, RX7, 4, (some .int))
theorem ckX7_take_ : CkM RX7 yX7_take_ iX7_take_ 3 := ⟨gw_all _ [1112, 1113, 71, 1114] (by decide +kernel) (by decide +kernel), by decide +kernel, by decide⟩
abbrev iX7_undo : Mi := (cX7_undo, RX7, 2, (some .int))
theorem ckX7_undo : CkM RX7 yX7_undo iX7_undo 0 := ⟨gw_all _ [1132, 1133, 71, 1134] (by decide +kernel) (by decide +kernel), by decide +kernel, by decide⟩
abbrev iX7_undoDepth : Mi := (cX7_undoDepth, RX7, 1, (some .int))
theorem ckX7_undoDepth : CkM RX7 yX7_undoDepth iX7_undoDepth 0 := ⟨gw_all _ [1136, 1137, 71, 1138] (by decide +kernel) (by decide +kernel), by decide +kernel, by decide⟩
abbrev iX7_userOf : Mi := (cX7_userOf, RX7, 4, (some .int))
theorem ckX7_userOf : CkM RX7 yX7_userOf iX7_userOf 2 := ⟨gw_all _ [1030, 54, 71, 1031] (by decide +kernel) (by decide +kernel), by decide +kernel, by decide⟩
abbrev iX7_violationCount : Mi := (cX7_violationCount, RX7, 1, (some .int))
theorem ckX7_violationCount : CkM RX7 yX7_violationCount iX7_violationCount 0 := ⟨gw_all _ [1085, 1086, 71, 1087] (by decide +kernel) (by decide +kernel), by decide +kernel, by decide⟩
abbrev iX7_violations : Mi := (cX7_violations, RX7, 3, (some .int))
theorem ckX7_violations : CkM RX7 yX7_violations iX7_violations 0 := ⟨gw_all _ [1090, 60, 71, 1091] (by decide +kernel) (by decide +kernel), by decide +kernel, by decide⟩
abbrev iJ0_charAt_5068e : Mi := (cJ0_charAt_5068e, RJ0, 2, (some .char))
theorem ckJ0_charAt_5068e : CkM RJ0 yJ0_charAt_5068e iJ0_charAt_5068e 1 := ⟨gw_all _ [394, 395, 73, 396] (by decide +kernel) (by decide +kernel), by decide +kernel, by decide⟩
abbrev iJ0_checkIndex_df160 : Mi := (cJ0_checkIndex_df160, RJ0, 2, none)
theorem ckJ0_checkIndex_df160 : CkS yJ0_checkIndex_df160 iJ0_checkIndex_df160 2 := ⟨gw_all _ [405, 73, 406] (by decide +kernel) (by decide +kernel), by decide +kernel, by decide⟩
abbrev iJ0_coder_7d493 : Mi := (cJ0_coder_7d493, RJ0, 1, (some .byte))
theorem ckJ0_coder_7d493 : CkM RJ0 yJ0_coder_7d493 iJ0_coder_7d493 0 := ⟨gw_all _ [388, 389, 73, 390] (by decide +kernel) (by decide +kernel), by decide +kernel, by decide⟩
abbrev iJ0_isLatin1_aae02 : Mi := (cJ0_isLatin1_aae02, RJ0, 1, (some .boolean))
theorem ckJ0_isLatin1_aae02 : CkM RJ0 yJ0_isLatin1_aae02 iJ0_isLatin1_aae02 0 := ⟨gw_all _ [398, 399, 73, 400] (by decide +kernel) (by decide +kernel), by decide +kernel, by decide⟩
abbrev iJ0_length_8abf5 : Mi := (cJ0_length_8abf5, RJ0, 1, (some .int))
theorem ckJ0_length_8abf5 : CkM RJ0 yJ0_length_8abf5 iJ0_length_8abf5 0 := ⟨gw_all _ [384, 385, 73, 386] (by decide +kernel) (by decide +kernel), by decide +kernel, by decide⟩
abbrev iJ1_charAt_3b067 : Mi := (cJ1_charAt_3b067, RJ1, 2, (some .char))
theorem ckJ1_charAt_3b067 : CkS yJ1_charAt_3b067 iJ1_charAt_3b067 2 := ⟨gw_all _ [402, 74, 403] (by decide +kernel) (by decide +kernel), by decide +kernel, by decide⟩
abbrev iJ2_charAt_3b067 : Mi := (cJ2_charAt_3b067, RJ2, 2, (some .char))
theorem ckJ2_charAt_3b067 : CkS yJ2_charAt_3b067 iJ2_charAt_3b067 2 := ⟨gw_all _ [413, 76, 414] (by decide +kernel) (by decide +kernel), by decide +kernel, by decide⟩
abbrev iJ2_checkIndex_2214a : Mi := (cJ2_checkIndex_2214a, RJ2, 2, none)
theorem ckJ2_checkIndex_2214a : CkS yJ2_checkIndex_2214a iJ2_checkIndex_2214a 2 := ⟨gw_all _ [416, 76, 417] (by decide +kernel) (by decide +kernel), by decide +kernel, by decide⟩
abbrev iJ2_getChar_3b067 : Mi := (cJ2_getChar_3b067, RJ2, 2, (some .char))
theorem ckJ2_getChar_3b067 : CkS yJ2_getChar_3b067 iJ2_getChar_3b067 2 := ⟨gw_all _ [423, 76, 424] (by decide +kernel) (by decide +kernel), by decide +kernel, by decide⟩
abbrev iJ2_length_9d52b : Mi := (cJ2_length_9d52b, RJ2, 1, (some .int))
theorem ckJ2_length_9d52b : CkS yJ2_length_9d52b iJ2_length_9d52b 1 := ⟨gw_all _ [419, 76, 420] (by decide +kernel) (by decide +kernel), by decide +kernel, by decide⟩
abbrev iJ3_checkIndex_8e157 : Mi := (cJ3_checkIndex_8e157, RJ3, 3, (some .int))
theorem ckJ3_checkIndex_8e157 : CkS yJ3_checkIndex_8e157 iJ3_checkIndex_8e157 3 := ⟨gw_all _ [410, 75, 411] (by decide +kernel) (by decide +kernel), by decide +kernel, by decide⟩
abbrev iJ6_bitCount_0f7a4 : Mi := (cJ6_bitCount_0f7a4, RJ6, 1, (some .int))
theorem ckJ6_bitCount_0f7a4 : CkS yJ6_bitCount_0f7a4 iJ6_bitCount_0f7a4 1 := ⟨gw_all _ [740, 79, 741] (by decide +kernel) (by decide +kernel), by decide +kernel, by decide⟩
abbrev iJ7_fill_53178 : Mi := (cJ7_fill_53178, RJ7, 4, none)
theorem ckJ7_fill_53178 : CkS yJ7_fill_53178 iJ7_fill_53178 2 := ⟨gw_all _ [361, 72, 362] (by decide +kernel) (by decide +kernel), by decide +kernel, by decide⟩
abbrev iJ9_min_7cf53 : Mi := (cJ9_min_7cf53, RJ9, 2, (some .int))
theorem ckJ9_min_7cf53 : CkS yJ9_min_7cf53 iJ9_min_7cf53 2 := ⟨gw_all _ [492, 78, 493] (by decide +kernel) (by decide +kernel), by decide +kernel, by decide⟩
theorem lkX6_28 : Cond.methodLink RX6 28 yX2_init ∈ GW := gw_of 174 (by decide +kernel) (by decide +kernel)
theorem lkX6_69 : Cond.methodLink RX6 69 yX5_readInto ∈ GW := gw_of 352 (by decide +kernel) (by decide +kernel)
theorem lkX6_73 : Cond.methodLink RX6 73 yX6_saveState ∈ GW := gw_of 476 (by decide +kernel) (by decide +kernel)
theorem lkX6_76 : Cond.methodLink RX6 76 yX4_copyFrom ∈ GW := gw_of 494 (by decide +kernel) (by decide +kernel)
theorem lkX6_80 : Cond.methodLink RX6 80 yX4_startRun ∈ GW := gw_of 495 (by decide +kernel) (by decide +kernel)
theorem lkX6_86 : Cond.methodLink RX6 86 yX4_has ∈ GW := gw_of 518 (by decide +kernel) (by decide +kernel)
theorem lkX6_93 : Cond.methodLink RX6 93 yX4_isAgent ∈ GW := gw_of 523 (by decide +kernel) (by decide +kernel)
theorem lkX6_102 : Cond.methodLink RX6 102 yX4_canHold ∈ GW := gw_of 536 (by decide +kernel) (by decide +kernel)
theorem lkX6_105 : Cond.methodLink RX6 105 yX4_listsReference ∈ GW := gw_of 537 (by decide +kernel) (by decide +kernel)
theorem lkX6_112 : Cond.methodLink RX6 112 yX4_listReference ∈ GW := gw_of 538 (by decide +kernel) (by decide +kernel)
theorem lkX6_116 : Cond.methodLink RX6 116 yX4_unlistReference ∈ GW := gw_of 543 (by decide +kernel) (by decide +kernel)
theorem lkX6_120 : Cond.methodLink RX6 120 yX4_hasBoth ∈ GW := gw_of 555 (by decide +kernel) (by decide +kernel)
theorem lkX6_123 : Cond.methodLink RX6 123 yX6_refreshAnalysis ∈ GW := gw_of 559 (by decide +kernel) (by decide +kernel)
theorem lkX6_129 : Cond.methodLink RX6 129 yX6_contains ∈ GW := gw_of 617 (by decide +kernel) (by decide +kernel)
theorem lkX6_135 : Cond.methodLink RX6 135 yX6_pair ∈ GW := gw_of 669 (by decide +kernel) (by decide +kernel)
theorem lkX6_145 : Cond.methodLink RX6 145 yX0_countDerived ∈ GW := gw_of 682 (by decide +kernel) (by decide +kernel)
theorem lkX6_153 : Cond.methodLink RX6 153 yX4_findRequirement ∈ GW := gw_of 702 (by decide +kernel) (by decide +kernel)
theorem lkX6_159 : Cond.methodLink RX6 159 yX4_addRequirement ∈ GW := gw_of 706 (by decide +kernel) (by decide +kernel)
theorem lkX6_162 : Cond.methodLink RX6 162 yX4_dropRequirement ∈ GW := gw_of 714 (by decide +kernel) (by decide +kernel)
theorem lkX6_165 : Cond.methodLink RX6 165 yX4_countViolations ∈ GW := gw_of 722 (by decide +kernel) (by decide +kernel)
theorem lkX6_169 : Cond.methodLink RX6 169 yX6_findNeeded ∈ GW := gw_of 730 (by decide +kernel) (by decide +kernel)
theorem lkX6_172 : Cond.methodLink RX6 172 yJ6_bitCount_0f7a4 ∈ GW := gw_of 739 (by decide +kernel) (by decide +kernel)
theorem lkX6_177 : Cond.methodLink RX6 177 yX6_isRepair ∈ GW := gw_of 735 (by decide +kernel) (by decide +kernel)
theorem lkX6_180 : Cond.methodLink RX6 180 yX4_isAgentWith ∈ GW := gw_of 749 (by decide +kernel) (by decide +kernel)
theorem lkX6_183 : Cond.methodLink RX6 183 yX4_runHolds ∈ GW := gw_of 750 (by decide +kernel) (by decide +kernel)
theorem lkX6_186 : Cond.methodLink RX6 186 yX6_bit ∈ GW := gw_of 734 (by decide +kernel) (by decide +kernel)
theorem lkX6_189 : Cond.methodLink RX6 189 yX4_addToRun ∈ GW := gw_of 754 (by decide +kernel) (by decide +kernel)
theorem lkX6_192 : Cond.methodLink RX6 192 yX4_fits ∈ GW := gw_of 767 (by decide +kernel) (by decide +kernel)
theorem lkX6_198 : Cond.methodLink RX6 198 yX4_isOfKind ∈ GW := gw_of 772 (by decide +kernel) (by decide +kernel)
theorem lkX6_204 : Cond.methodLink RX6 204 yX4_countRun ∈ GW := gw_of 777 (by decide +kernel) (by decide +kernel)
theorem lkX6_211 : Cond.methodLink RX6 211 yX2_restoreInto ∈ GW := gw_of 789 (by decide +kernel) (by decide +kernel)
theorem lkX6_214 : Cond.methodLink RX6 214 yX2_save ∈ GW := gw_of 480 (by decide +kernel) (by decide +kernel)
theorem lkX6_217 : Cond.methodLink RX6 217 yX3_readFrom ∈ GW := gw_of 563 (by decide +kernel) (by decide +kernel)
theorem lkX6_220 : Cond.methodLink RX6 220 yX0_findAll ∈ GW := gw_of 591 (by decide +kernel) (by decide +kernel)
theorem lkX6_224 : Cond.methodLink RX6 224 yX1_start ∈ GW := gw_of 638 (by decide +kernel) (by decide +kernel)
theorem lkX6_228 : Cond.methodLink RX6 228 yX1_close ∈ GW := gw_of 643 (by decide +kernel) (by decide +kernel)
theorem lkX0_46 : Cond.methodLink RX0 46 yJ7_fill_53178 ∈ GW := gw_of 595 (by decide +kernel) (by decide +kernel)
theorem lkX0_52 : Cond.methodLink RX0 52 yX4_fillInitialRows ∈ GW := gw_of 596 (by decide +kernel) (by decide +kernel)
theorem lkX0_62 : Cond.methodLink RX0 62 yX0_findInitial ∈ GW := gw_of 597 (by decide +kernel) (by decide +kernel)
theorem lkX0_66 : Cond.methodLink RX0 66 yX0_findRound ∈ GW := gw_of 606 (by decide +kernel) (by decide +kernel)
theorem lkX0_82 : Cond.methodLink RX0 82 yX0_findGift ∈ GW := gw_of 610 (by decide +kernel) (by decide +kernel)
theorem lkX0_86 : Cond.methodLink RX0 86 yX0_findTaking ∈ GW := gw_of 622 (by decide +kernel) (by decide +kernel)
theorem lkX0_89 : Cond.methodLink RX0 89 yX0_findEndowment ∈ GW := gw_of 630 (by decide +kernel) (by decide +kernel)
theorem lkX0_92 : Cond.methodLink RX0 92 yX0_publish ∈ GW := gw_of 634 (by decide +kernel) (by decide +kernel)
theorem lkX0_105 : Cond.methodLink RX0 105 yX0_setCause ∈ GW := gw_of 618 (by decide +kernel) (by decide +kernel)
theorem lkX0_115 : Cond.methodLink RX0 115 yX0_findOpenBox ∈ GW := gw_of 626 (by decide +kernel) (by decide +kernel)
theorem lkX0_128 : Cond.methodLink RX0 128 yX0_enqueue ∈ GW := gw_of 686 (by decide +kernel) (by decide +kernel)
theorem lkX1_19 : Cond.methodLink RX1 19 yX4_fillInitialRows ∈ GW := gw_of 642 (by decide +kernel) (by decide +kernel)
theorem lkX1_31 : Cond.methodLink RX1 31 yX1_applyRules ∈ GW := gw_of 647 (by decide +kernel) (by decide +kernel)
theorem lkX1_35 : Cond.methodLink RX1 35 yX1_merge ∈ GW := gw_of 661 (by decide +kernel) (by decide +kernel)
theorem lkX1_55 : Cond.methodLink RX1 55 yX1_grant ∈ GW := gw_of 653 (by decide +kernel) (by decide +kernel)
theorem lkX1_59 : Cond.methodLink RX1 59 yX1_takeFrom ∈ GW := gw_of 657 (by decide +kernel) (by decide +kernel)
theorem lkX2_25 : Cond.methodLink RX2 25 yX4_copyFrom ∈ GW := gw_of 484 (by decide +kernel) (by decide +kernel)
theorem lkX2_29 : Cond.methodLink RX2 29 yJ9_min_7cf53 ∈ GW := gw_of 491 (by decide +kernel) (by decide +kernel)
theorem lkX3_52 : Cond.methodLink RX3 52 yX3_agentsWith ∈ GW := gw_of 567 (by decide +kernel) (by decide +kernel)
theorem lkX3_56 : Cond.methodLink RX3 56 yJ7_fill_53178 ∈ GW := gw_of 576 (by decide +kernel) (by decide +kernel)
theorem lkX3_62 : Cond.methodLink RX3 62 yX3_readObject ∈ GW := gw_of 577 (by decide +kernel) (by decide +kernel)
theorem lkX3_67 : Cond.methodLink RX3 67 yX4_isOfKind ∈ GW := gw_of 581 (by decide +kernel) (by decide +kernel)
theorem lkX3_75 : Cond.methodLink RX3 75 yX4_canHold ∈ GW := gw_of 585 (by decide +kernel) (by decide +kernel)
theorem lkX3_79 : Cond.methodLink RX3 79 yX4_fits ∈ GW := gw_of 586 (by decide +kernel) (by decide +kernel)
theorem lkX3_85 : Cond.methodLink RX3 85 yX4_isAgentWith ∈ GW := gw_of 570 (by decide +kernel) (by decide +kernel)
theorem lkX4_49 : Cond.methodLink RX4 49 yJ7_fill_53178 ∈ GW := gw_of 360 (by decide +kernel) (by decide +kernel)
theorem lkX4_61 : Cond.methodLink RX4 61 yX4_has ∈ GW := gw_of 455 (by decide +kernel) (by decide +kernel)
theorem lkX4_65 : Cond.methodLink RX4 65 yX4_isAgent ∈ GW := gw_of 574 (by decide +kernel) (by decide +kernel)
theorem lkX4_68 : Cond.methodLink RX4 68 yX4_isOfKind ∈ GW := gw_of 590 (by decide +kernel) (by decide +kernel)
theorem lkX4_79 : Cond.methodLink RX4 79 yX4_fillInitialRows ∈ GW := gw_of 499 (by decide +kernel) (by decide +kernel)
theorem lkX4_82 : Cond.methodLink RX4 82 yJ6_bitCount_0f7a4 ∈ GW := gw_of 758 (by decide +kernel) (by decide +kernel)
theorem lkX5_31 : Cond.methodLink RX5 31 yX4_reset ∈ GW := gw_of 356 (by decide +kernel) (by decide +kernel)
theorem lkX5_36 : Cond.methodLink RX5 36 yX5_advance ∈ GW := gw_of 363 (by decide +kernel) (by decide +kernel)
theorem lkX5_39 : Cond.methodLink RX5 39 yX5_readStatement ∈ GW := gw_of 370 (by decide +kernel) (by decide +kernel)
theorem lkX5_43 : Cond.methodLink RX5 43 yX5_findStatement ∈ GW := gw_of 374 (by decide +kernel) (by decide +kernel)
theorem lkX5_47 : Cond.methodLink RX5 47 yX5_isFull ∈ GW := gw_of 435 (by decide +kernel) (by decide +kernel)
theorem lkX5_51 : Cond.methodLink RX5 51 yX5_numberValue ∈ GW := gw_of 439 (by decide +kernel) (by decide +kernel)
theorem lkX5_54 : Cond.methodLink RX5 54 yX5_accepts ∈ GW := gw_of 443 (by decide +kernel) (by decide +kernel)
theorem lkX5_58 : Cond.methodLink RX5 58 yX5_perform ∈ GW := gw_of 464 (by decide +kernel) (by decide +kernel)
theorem lkX5_68 : Cond.methodLink RX5 68 yX4_has ∈ GW := gw_of 447 (by decide +kernel) (by decide +kernel)
theorem lkX5_72 : Cond.methodLink RX5 72 yX4_isAgent ∈ GW := gw_of 451 (by decide +kernel) (by decide +kernel)
theorem lkX5_75 : Cond.methodLink RX5 75 yX4_canHold ∈ GW := gw_of 456 (by decide +kernel) (by decide +kernel)
theorem lkX5_78 : Cond.methodLink RX5 78 yX4_listsReference ∈ GW := gw_of 460 (by decide +kernel) (by decide +kernel)
theorem lkX5_82 : Cond.methodLink RX5 82 yX4_declareObject ∈ GW := gw_of 468 (by decide +kernel) (by decide +kernel)
theorem lkX5_86 : Cond.methodLink RX5 86 yX4_listReference ∈ GW := gw_of 472 (by decide +kernel) (by decide +kernel)
theorem lkX5_92 : Cond.methodLink RX5 92 yX5_tokenIs ∈ GW := gw_of 379 (by decide +kernel) (by decide +kernel)
theorem lkX5_104 : Cond.methodLink RX5 104 yJ0_length_8abf5 ∈ GW := gw_of 383 (by decide +kernel) (by decide +kernel)
theorem lkX5_108 : Cond.methodLink RX5 108 yJ0_charAt_5068e ∈ GW := gw_of 393 (by decide +kernel) (by decide +kernel)
theorem lkX5_112 : Cond.methodLink RX5 112 yX5_typeOf ∈ GW := gw_of 367 (by decide +kernel) (by decide +kernel)
theorem lkX7_45 : Cond.methodLink RX7 45 yX7_isLetter ∈ GW := gw_of 883 (by decide +kernel) (by decide +kernel)
theorem lkX7_49 : Cond.methodLink RX7 49 yX7_characterAt ∈ GW := gw_of 875 (by decide +kernel) (by decide +kernel)
theorem lkX7_56 : Cond.methodLink RX7 56 yX7_in ∈ GW := gw_of 860 (by decide +kernel) (by decide +kernel)
theorem lkX7_60 : Cond.methodLink RX7 60 yX7_keyword ∈ GW := gw_of 879 (by decide +kernel) (by decide +kernel)
theorem lkX7_70 : Cond.methodLink RX7 70 yX7_isFine ∈ GW := gw_of 887 (by decide +kernel) (by decide +kernel)
theorem lkX7_74 : Cond.methodLink RX7 74 yX7_advance ∈ GW := gw_of 871 (by decide +kernel) (by decide +kernel)
theorem lkX7_77 : Cond.methodLink RX7 77 yX7_take ∈ GW := gw_of 891 (by decide +kernel) (by decide +kernel)
theorem lkX7_81 : Cond.methodLink RX7 81 yX7_number ∈ GW := gw_of 909 (by decide +kernel) (by decide +kernel)
theorem lkX7_84 : Cond.methodLink RX7 84 yX7_isHolder ∈ GW := gw_of 899 (by decide +kernel) (by decide +kernel)
theorem lkX7_88 : Cond.methodLink RX7 88 yX7_indexOf ∈ GW := gw_of 902 (by decide +kernel) (by decide +kernel)
theorem lkX7_92 : Cond.methodLink RX7 92 yX7_readHold ∈ GW := gw_of 895 (by decide +kernel) (by decide +kernel)
theorem lkX7_95 : Cond.methodLink RX7 95 yX7_readObject ∈ GW := gw_of 905 (by decide +kernel) (by decide +kernel)
theorem lkX7_99 : Cond.methodLink RX7 99 yX7_save ∈ GW := gw_of 913 (by decide +kernel) (by decide +kernel)
theorem lkX7_102 : Cond.methodLink RX7 102 yX7_beginRun ∈ GW := gw_of 917 (by decide +kernel) (by decide +kernel)
theorem lkX7_108 : Cond.methodLink RX7 108 yX7_isObject ∈ GW := gw_of 929 (by decide +kernel) (by decide +kernel)
theorem lkX7_112 : Cond.methodLink RX7 112 yX7_isOf ∈ GW := gw_of 937 (by decide +kernel) (by decide +kernel)
theorem lkX7_115 : Cond.methodLink RX7 115 yX7_change ∈ GW := gw_of 945 (by decide +kernel) (by decide +kernel)
theorem lkX7_119 : Cond.methodLink RX7 119 yX7_does ∈ GW := gw_of 1000 (by decide +kernel) (by decide +kernel)
theorem lkX7_122 : Cond.methodLink RX7 122 yX7_isFound ∈ GW := gw_of 1004 (by decide +kernel) (by decide +kernel)
theorem lkX7_125 : Cond.methodLink RX7 125 yX7_keyOf ∈ GW := gw_of 1016 (by decide +kernel) (by decide +kernel)
theorem lkX7_129 : Cond.methodLink RX7 129 yX7_userOf ∈ GW := gw_of 1028 (by decide +kernel) (by decide +kernel)
theorem lkX7_132 : Cond.methodLink RX7 132 yX7_giver ∈ GW := gw_of 996 (by decide +kernel) (by decide +kernel)
theorem lkX7_135 : Cond.methodLink RX7 135 yX7_answerer ∈ GW := gw_of 1008 (by decide +kernel) (by decide +kernel)
theorem lkX7_138 : Cond.methodLink RX7 138 yX7_openedBox ∈ GW := gw_of 1012 (by decide +kernel) (by decide +kernel)
theorem lkX7_141 : Cond.methodLink RX7 141 yX7_creator ∈ GW := gw_of 1020 (by decide +kernel) (by decide +kernel)
theorem lkX7_144 : Cond.methodLink RX7 144 yX7_endower ∈ GW := gw_of 1024 (by decide +kernel) (by decide +kernel)
theorem lkX7_147 : Cond.methodLink RX7 147 yX7_partnerBy ∈ GW := gw_of 992 (by decide +kernel) (by decide +kernel)
theorem lkX7_151 : Cond.methodLink RX7 151 yX7_has ∈ GW := gw_of 981 (by decide +kernel) (by decide +kernel)
theorem lkX7_157 : Cond.methodLink RX7 157 yX7_findRound ∈ GW := gw_of 984 (by decide +kernel) (by decide +kernel)
theorem lkX7_160 : Cond.methodLink RX7 160 yX7_ruleFor ∈ GW := gw_of 988 (by decide +kernel) (by decide +kernel)
theorem lkX7_163 : Cond.methodLink RX7 163 yX7_analyse ∈ GW := gw_of 977 (by decide +kernel) (by decide +kernel)
theorem lkX7_166 : Cond.methodLink RX7 166 yX7_areObjects ∈ GW := gw_of 969 (by decide +kernel) (by decide +kernel)
theorem lkX7_169 : Cond.methodLink RX7 169 yX7_roundOf ∈ GW := gw_of 973 (by decide +kernel) (by decide +kernel)
theorem lkX7_175 : Cond.methodLink RX7 175 yX7_derive ∈ GW := gw_of 1048 (by decide +kernel) (by decide +kernel)
theorem lkX7_179 : Cond.methodLink RX7 179 yX7_derivePremises ∈ GW := gw_of 1052 (by decide +kernel) (by decide +kernel)
theorem lkX7_182 : Cond.methodLink RX7 182 yX7_mergeGroups ∈ GW := gw_of 1068 (by decide +kernel) (by decide +kernel)
theorem lkX7_185 : Cond.methodLink RX7 185 yX7_merge ∈ GW := gw_of 1064 (by decide +kernel) (by decide +kernel)
theorem lkX7_188 : Cond.methodLink RX7 188 yX7_requirementOf ∈ GW := gw_of 1076 (by decide +kernel) (by decide +kernel)
theorem lkX7_191 : Cond.methodLink RX7 191 yX7_violations ∈ GW := gw_of 1088 (by decide +kernel) (by decide +kernel)
theorem lkX7_194 : Cond.methodLink RX7 194 yX7_bitCount ∈ GW := gw_of 1096 (by decide +kernel) (by decide +kernel)
theorem lkX7_197 : Cond.methodLink RX7 197 yX7_holds ∈ GW := gw_of 1103 (by decide +kernel) (by decide +kernel)
theorem lkX7_200 : Cond.methodLink RX7 200 yX7_saveAndHold ∈ GW := gw_of 1107 (by decide +kernel) (by decide +kernel)
theorem lkJ0_335 : Cond.methodLink RJ0 335 yJ0_coder_7d493 ∈ GW := gw_of 387 (by decide +kernel) (by decide +kernel)
theorem lkJ0_492 : Cond.methodLink RJ0 492 yJ0_isLatin1_aae02 ∈ GW := gw_of 397 (by decide +kernel) (by decide +kernel)
theorem lkJ0_495 : Cond.methodLink RJ0 495 yJ1_charAt_3b067 ∈ GW := gw_of 401 (by decide +kernel) (by decide +kernel)
theorem lkJ0_498 : Cond.methodLink RJ0 498 yJ2_charAt_3b067 ∈ GW := gw_of 412 (by decide +kernel) (by decide +kernel)
theorem lkJ0_1059 : Cond.methodLink RJ0 1059 yJ3_checkIndex_8e157 ∈ GW := gw_of 409 (by decide +kernel) (by decide +kernel)
theorem lkJ1_9 : Cond.methodLink RJ1 9 yJ0_checkIndex_df160 ∈ GW := gw_of 404 (by decide +kernel) (by decide +kernel)
theorem lkJ2_48 : Cond.methodLink RJ2 48 yJ2_length_9d52b ∈ GW := gw_of 418 (by decide +kernel) (by decide +kernel)
theorem lkJ2_67 : Cond.methodLink RJ2 67 yJ2_checkIndex_2214a ∈ GW := gw_of 415 (by decide +kernel) (by decide +kernel)
theorem lkJ2_71 : Cond.methodLink RJ2 71 yJ2_getChar_3b067 ∈ GW := gw_of 422 (by decide +kernel) (by decide +kernel)
theorem lkJ2_414 : Cond.methodLink RJ2 414 yJ0_checkIndex_df160 ∈ GW := gw_of 421 (by decide +kernel) (by decide +kernel)
theorem nkX6_11 : (RX6, 11, yX5_init, "ConfinementAnalyzer") ∈ nestL := List.mem_filterMap.mpr ⟨.methodLinkNest RX6 11 yX5_init "ConfinementAnalyzer", List.mem_of_getElem? (i := 90) (by decide +kernel), rfl⟩
theorem nkX6_18 : (RX6, 18, yX4_init, "ConfinementAnalyzer") ∈ nestL := List.mem_filterMap.mpr ⟨.methodLinkNest RX6 18 yX4_init "ConfinementAnalyzer", List.mem_of_getElem? (i := 118) (by decide +kernel), rfl⟩
theorem nkX6_35 : (RX6, 35, yX3_init, "ConfinementAnalyzer") ∈ nestL := List.mem_filterMap.mpr ⟨.methodLinkNest RX6 35 yX3_init "ConfinementAnalyzer", List.mem_of_getElem? (i := 194) (by decide +kernel), rfl⟩
theorem nkX6_42 : (RX6, 42, yX0_init, "ConfinementAnalyzer") ∈ nestL := List.mem_filterMap.mpr ⟨.methodLinkNest RX6 42 yX0_init "ConfinementAnalyzer", List.mem_of_getElem? (i := 255) (by decide +kernel), rfl⟩
theorem nkX6_49 : (RX6, 49, yX1_init, "ConfinementAnalyzer") ∈ nestL := List.mem_filterMap.mpr ⟨.methodLinkNest RX6 49 yX1_init "ConfinementAnalyzer", List.mem_of_getElem? (i := 300) (by decide +kernel), rfl⟩
theorem nkX0_70 : (RX0, 70, yX6_contains, "ConfinementAnalyzer") ∈ nestL := List.mem_filterMap.mpr ⟨.methodLinkNest RX0 70 yX6_contains "ConfinementAnalyzer", List.mem_of_getElem? (i := 601) (by decide +kernel), rfl⟩
theorem nkX0_74 : (RX0, 74, yX6_pair, "ConfinementAnalyzer") ∈ nestL := List.mem_filterMap.mpr ⟨.methodLinkNest RX0 74 yX6_pair "ConfinementAnalyzer", List.mem_of_getElem? (i := 602) (by decide +kernel), rfl⟩
theorem nkX0_78 : (RX0, 78, yX6_bit, "ConfinementAnalyzer") ∈ nestL := List.mem_filterMap.mpr ⟨.methodLinkNest RX0 78 yX6_bit "ConfinementAnalyzer", List.mem_of_getElem? (i := 605) (by decide +kernel), rfl⟩
theorem nkX0_102 : (RX0, 102, yX6_lowest, "ConfinementAnalyzer") ∈ nestL := List.mem_filterMap.mpr ⟨.methodLinkNest RX0 102 yX6_lowest "ConfinementAnalyzer", List.mem_of_getElem? (i := 614) (by decide +kernel), rfl⟩
theorem nkX1_41 : (RX1, 41, yX6_contains, "ConfinementAnalyzer") ∈ nestL := List.mem_filterMap.mpr ⟨.methodLinkNest RX1 41 yX6_contains "ConfinementAnalyzer", List.mem_of_getElem? (i := 651) (by decide +kernel), rfl⟩
theorem nkX1_51 : (RX1, 51, yX6_bit, "ConfinementAnalyzer") ∈ nestL := List.mem_filterMap.mpr ⟨.methodLinkNest RX1 51 yX6_bit "ConfinementAnalyzer", List.mem_of_getElem? (i := 652) (by decide +kernel), rfl⟩
theorem nkX2_24 : (RX2, 24, yX4_init, "ConfinementAnalyzer") ∈ nestL := List.mem_filterMap.mpr ⟨.methodLinkNest RX2 24 yX4_init "ConfinementAnalyzer", List.mem_of_getElem? (i := 180) (by decide +kernel), rfl⟩
theorem nkX3_71 : (RX3, 71, yX6_bit, "ConfinementAnalyzer") ∈ nestL := List.mem_filterMap.mpr ⟨.methodLinkNest RX3 71 yX6_bit "ConfinementAnalyzer", List.mem_of_getElem? (i := 575) (by decide +kernel), rfl⟩
theorem nkX4_72 : (RX4, 72, yX6_contains, "ConfinementAnalyzer") ∈ nestL := List.mem_filterMap.mpr ⟨.methodLinkNest RX4 72 yX6_contains "ConfinementAnalyzer", List.mem_of_getElem? (i := 503) (by decide +kernel), rfl⟩
theorem nkX4_75 : (RX4, 75, yX6_bit, "ConfinementAnalyzer") ∈ nestL := List.mem_filterMap.mpr ⟨.methodLinkNest RX4 75 yX6_bit "ConfinementAnalyzer", List.mem_of_getElem? (i := 506) (by decide +kernel), rfl⟩
theorem fkX6_12 : FOk RX6 12 6 0 := ⟨RX6, TX6, 9, rfl, by decide, inG6, gw_of 312 (by decide +kernel) (by decide +kernel)⟩
theorem fkX6_19 : FOk RX6 19 6 1 := ⟨RX6, TX6, 9, rfl, by decide, inG6, gw_of 313 (by decide +kernel) (by decide +kernel)⟩
theorem fkX6_23 : FOk RX6 23 6 2 := ⟨RX6, TX6, 9, rfl, by decide, inG6, gw_of 314 (by decide +kernel) (by decide +kernel)⟩
theorem fkX6_29 : FOk RX6 29 6 3 := ⟨RX6, TX6, 9, rfl, by decide, inG6, gw_of 315 (by decide +kernel) (by decide +kernel)⟩
theorem fkX6_36 : FOk RX6 36 6 4 := ⟨RX6, TX6, 9, rfl, by decide, inG6, gw_of 316 (by decide +kernel) (by decide +kernel)⟩
theorem fkX6_43 : FOk RX6 43 6 5 := ⟨RX6, TX6, 9, rfl, by decide, inG6, gw_of 317 (by decide +kernel) (by decide +kernel)⟩
theorem fkX6_50 : FOk RX6 50 6 6 := ⟨RX6, TX6, 9, rfl, by decide, inG6, gw_of 318 (by decide +kernel) (by decide +kernel)⟩
theorem fkX6_54 : FOk RX6 54 6 7 := ⟨RX6, TX6, 9, rfl, by decide, inG6, gw_of 319 (by decide +kernel) (by decide +kernel)⟩
theorem fkX6_57 : FOk RX6 57 6 8 := ⟨RX6, TX6, 9, rfl, by decide, inG6, gw_of 320 (by decide +kernel) (by decide +kernel)⟩
theorem fpX6_57 : FPok RX6 57 6 8 .boolean := ⟨RX6, TX6, 9, tyX6, rfl, by decide, inG6, gw_of 320 (by decide +kernel) (by decide +kernel), tyX6_ok, nmX6, by decide +kernel, by decide +kernel⟩
theorem fkX6_61 : FOk RX6 61 5 1 := ⟨RX5, TX5, 6, rfl, by decide, inG5, gw_of 97 (by decide +kernel) (by decide +kernel)⟩
theorem fpX6_61 : FPok RX6 61 5 1 .int := ⟨RX5, TX5, 6, tyX5, rfl, by decide, inG5, gw_of 97 (by decide +kernel) (by decide +kernel), tyX5_ok, nmX5, by decide +kernel, by decide +kernel⟩
theorem fkX6_65 : FOk RX6 65 5 0 := ⟨RX5, TX5, 6, rfl, by decide, inG5, gw_of 95 (by decide +kernel) (by decide +kernel)⟩
theorem fkX6_83 : FOk RX6 83 4 0 := ⟨RX4, TX4, 12, rfl, by decide, inG4, gw_of 125 (by decide +kernel) (by decide +kernel)⟩
theorem fpX6_83 : FPok RX6 83 4 0 .int := ⟨RX4, TX4, 12, tyX4, rfl, by decide, inG4, gw_of 125 (by decide +kernel) (by decide +kernel), tyX4_ok, nmX4, by decide +kernel, by decide +kernel⟩
theorem fkX6_90 : FOk RX6 90 4 1 := ⟨RX4, TX4, 12, rfl, by decide, inG4, gw_of 127 (by decide +kernel) (by decide +kernel)⟩
theorem fkX6_96 : FOk RX6 96 4 2 := ⟨RX4, TX4, 12, rfl, by decide, inG4, gw_of 129 (by decide +kernel) (by decide +kernel)⟩
theorem fkX6_99 : FOk RX6 99 4 4 := ⟨RX4, TX4, 12, rfl, by decide, inG4, gw_of 135 (by decide +kernel) (by decide +kernel)⟩
theorem fkX6_109 : FOk RX6 109 4 5 := ⟨RX4, TX4, 12, rfl, by decide, inG4, gw_of 138 (by decide +kernel) (by decide +kernel)⟩
theorem fpX6_109 : FPok RX6 109 4 5 .int := ⟨RX4, TX4, 12, tyX4, rfl, by decide, inG4, gw_of 138 (by decide +kernel) (by decide +kernel), tyX4_ok, nmX4, by decide +kernel, by decide +kernel⟩
theorem fkX6_126 : FOk RX6 126 0 0 := ⟨RX0, TX0, 11, rfl, by decide, inG0, gw_of 260 (by decide +kernel) (by decide +kernel)⟩
theorem fkX6_132 : FOk RX6 132 0 2 := ⟨RX0, TX0, 11, rfl, by decide, inG0, gw_of 263 (by decide +kernel) (by decide +kernel)⟩
theorem fkX6_139 : FOk RX6 139 0 3 := ⟨RX0, TX0, 11, rfl, by decide, inG0, gw_of 265 (by decide +kernel) (by decide +kernel)⟩
theorem fkX6_142 : FOk RX6 142 0 4 := ⟨RX0, TX0, 11, rfl, by decide, inG0, gw_of 267 (by decide +kernel) (by decide +kernel)⟩
theorem fkX6_149 : FOk RX6 149 0 7 := ⟨RX0, TX0, 11, rfl, by decide, inG0, gw_of 271 (by decide +kernel) (by decide +kernel)⟩
theorem fpX6_149 : FPok RX6 149 0 7 .int := ⟨RX0, TX0, 11, tyX0, rfl, by decide, inG0, gw_of 271 (by decide +kernel) (by decide +kernel), tyX0_ok, nmX0, by decide +kernel, by decide +kernel⟩
theorem fkX6_152 : FOk RX6 152 1 0 := ⟨RX1, TX1, 2, rfl, by decide, inG1, gw_of 305 (by decide +kernel) (by decide +kernel)⟩
theorem fkX6_156 : FOk RX6 156 4 8 := ⟨RX4, TX4, 12, rfl, by decide, inG4, gw_of 142 (by decide +kernel) (by decide +kernel)⟩
theorem fpX6_156 : FPok RX6 156 4 8 .int := ⟨RX4, TX4, 12, tyX4, rfl, by decide, inG4, gw_of 142 (by decide +kernel) (by decide +kernel), tyX4_ok, nmX4, by decide +kernel, by decide +kernel⟩
theorem fkX6_195 : FOk RX6 195 4 3 := ⟨RX4, TX4, 12, rfl, by decide, inG4, gw_of 132 (by decide +kernel) (by decide +kernel)⟩
theorem fkX6_201 : FOk RX6 201 4 11 := ⟨RX4, TX4, 12, rfl, by decide, inG4, gw_of 146 (by decide +kernel) (by decide +kernel)⟩
theorem fkX6_208 : FOk RX6 208 2 2 := ⟨RX2, TX2, 3, rfl, by decide, inG2, gw_of 184 (by decide +kernel) (by decide +kernel)⟩
theorem fpX6_208 : FPok RX6 208 2 2 .int := ⟨RX2, TX2, 3, tyX2, rfl, by decide, inG2, gw_of 184 (by decide +kernel) (by decide +kernel), tyX2_ok, nmX2, by decide +kernel, by decide +kernel⟩
theorem fkX0_9 : FOk RX0 9 0 0 := ⟨RX0, TX0, 11, rfl, by decide, inG0, gw_of 259 (by decide +kernel) (by decide +kernel)⟩
theorem fkX0_15 : FOk RX0 15 0 1 := ⟨RX0, TX0, 11, rfl, by decide, inG0, gw_of 261 (by decide +kernel) (by decide +kernel)⟩
theorem fkX0_18 : FOk RX0 18 0 2 := ⟨RX0, TX0, 11, rfl, by decide, inG0, gw_of 262 (by decide +kernel) (by decide +kernel)⟩
theorem fkX0_21 : FOk RX0 21 0 3 := ⟨RX0, TX0, 11, rfl, by decide, inG0, gw_of 264 (by decide +kernel) (by decide +kernel)⟩
theorem fkX0_24 : FOk RX0 24 0 4 := ⟨RX0, TX0, 11, rfl, by decide, inG0, gw_of 266 (by decide +kernel) (by decide +kernel)⟩
theorem fkX0_27 : FOk RX0 27 0 5 := ⟨RX0, TX0, 11, rfl, by decide, inG0, gw_of 268 (by decide +kernel) (by decide +kernel)⟩
theorem fkX0_30 : FOk RX0 30 0 6 := ⟨RX0, TX0, 11, rfl, by decide, inG0, gw_of 269 (by decide +kernel) (by decide +kernel)⟩
theorem fkX0_33 : FOk RX0 33 0 7 := ⟨RX0, TX0, 11, rfl, by decide, inG0, gw_of 270 (by decide +kernel) (by decide +kernel)⟩
theorem fpX0_33 : FPok RX0 33 0 7 .int := ⟨RX0, TX0, 11, tyX0, rfl, by decide, inG0, gw_of 270 (by decide +kernel) (by decide +kernel), tyX0_ok, nmX0, by decide +kernel, by decide +kernel⟩
theorem fkX0_37 : FOk RX0 37 0 8 := ⟨RX0, TX0, 11, rfl, by decide, inG0, gw_of 272 (by decide +kernel) (by decide +kernel)⟩
theorem fkX0_40 : FOk RX0 40 0 9 := ⟨RX0, TX0, 11, rfl, by decide, inG0, gw_of 273 (by decide +kernel) (by decide +kernel)⟩
theorem fkX0_43 : FOk RX0 43 0 10 := ⟨RX0, TX0, 11, rfl, by decide, inG0, gw_of 274 (by decide +kernel) (by decide +kernel)⟩
theorem fpX0_43 : FPok RX0 43 0 10 .int := ⟨RX0, TX0, 11, tyX0, rfl, by decide, inG0, gw_of 274 (by decide +kernel) (by decide +kernel), tyX0_ok, nmX0, by decide +kernel, by decide +kernel⟩
theorem fkX0_57 : FOk RX0 57 3 0 := ⟨RX3, TX3, 12, rfl, by decide, inG3, gw_of 199 (by decide +kernel) (by decide +kernel)⟩
theorem fpX0_57 : FPok RX0 57 3 0 .int := ⟨RX3, TX3, 12, tyX3, rfl, by decide, inG3, gw_of 199 (by decide +kernel) (by decide +kernel), tyX3_ok, nmX3, by decide +kernel, by decide +kernel⟩
theorem fkX0_96 : FOk RX0 96 3 3 := ⟨RX3, TX3, 12, rfl, by decide, inG3, gw_of 209 (by decide +kernel) (by decide +kernel)⟩
theorem fpX0_96 : FPok RX0 96 3 3 .int := ⟨RX3, TX3, 12, tyX3, rfl, by decide, inG3, gw_of 209 (by decide +kernel) (by decide +kernel), tyX3_ok, nmX3, by decide +kernel, by decide +kernel⟩
theorem fkX0_99 : FOk RX0 99 3 1 := ⟨RX3, TX3, 12, rfl, by decide, inG3, gw_of 203 (by decide +kernel) (by decide +kernel)⟩
theorem fpX0_99 : FPok RX0 99 3 1 .int := ⟨RX3, TX3, 12, tyX3, rfl, by decide, inG3, gw_of 203 (by decide +kernel) (by decide +kernel), tyX3_ok, nmX3, by decide +kernel, by decide +kernel⟩
theorem fkX0_109 : FOk RX0 109 3 2 := ⟨RX3, TX3, 12, rfl, by decide, inG3, gw_of 206 (by decide +kernel) (by decide +kernel)⟩
theorem fpX0_109 : FPok RX0 109 3 2 .int := ⟨RX3, TX3, 12, tyX3, rfl, by decide, inG3, gw_of 206 (by decide +kernel) (by decide +kernel), tyX3_ok, nmX3, by decide +kernel, by decide +kernel⟩
theorem fkX0_112 : FOk RX0 112 3 4 := ⟨RX3, TX3, 12, rfl, by decide, inG3, gw_of 212 (by decide +kernel) (by decide +kernel)⟩
theorem fpX0_112 : FPok RX0 112 3 4 .int := ⟨RX3, TX3, 12, tyX3, rfl, by decide, inG3, gw_of 212 (by decide +kernel) (by decide +kernel), tyX3_ok, nmX3, by decide +kernel, by decide +kernel⟩
theorem fkX0_119 : FOk RX0 119 3 8 := ⟨RX3, TX3, 12, rfl, by decide, inG3, gw_of 221 (by decide +kernel) (by decide +kernel)⟩
theorem fkX0_122 : FOk RX0 122 3 10 := ⟨RX3, TX3, 12, rfl, by decide, inG3, gw_of 225 (by decide +kernel) (by decide +kernel)⟩
theorem fkX0_125 : FOk RX0 125 3 9 := ⟨RX3, TX3, 12, rfl, by decide, inG3, gw_of 223 (by decide +kernel) (by decide +kernel)⟩
theorem fkX1_9 : FOk RX1 9 1 0 := ⟨RX1, TX1, 2, rfl, by decide, inG1, gw_of 304 (by decide +kernel) (by decide +kernel)⟩
theorem fkX1_15 : FOk RX1 15 1 1 := ⟨RX1, TX1, 2, rfl, by decide, inG1, gw_of 306 (by decide +kernel) (by decide +kernel)⟩
theorem fpX1_15 : FPok RX1 15 1 1 .boolean := ⟨RX1, TX1, 2, tyX1, rfl, by decide, inG1, gw_of 306 (by decide +kernel) (by decide +kernel), tyX1_ok, nmX1, by decide +kernel, by decide +kernel⟩
theorem fkX1_25 : FOk RX1 25 3 0 := ⟨RX3, TX3, 12, rfl, by decide, inG3, gw_of 200 (by decide +kernel) (by decide +kernel)⟩
theorem fpX1_25 : FPok RX1 25 3 0 .int := ⟨RX3, TX3, 12, tyX3, rfl, by decide, inG3, gw_of 200 (by decide +kernel) (by decide +kernel), tyX3_ok, nmX3, by decide +kernel, by decide +kernel⟩
theorem fkX1_38 : FOk RX1 38 3 1 := ⟨RX3, TX3, 12, rfl, by decide, inG3, gw_of 202 (by decide +kernel) (by decide +kernel)⟩
theorem fpX1_38 : FPok RX1 38 3 1 .int := ⟨RX3, TX3, 12, tyX3, rfl, by decide, inG3, gw_of 202 (by decide +kernel) (by decide +kernel), tyX3_ok, nmX3, by decide +kernel, by decide +kernel⟩
theorem fkX1_45 : FOk RX1 45 3 2 := ⟨RX3, TX3, 12, rfl, by decide, inG3, gw_of 205 (by decide +kernel) (by decide +kernel)⟩
theorem fpX1_45 : FPok RX1 45 3 2 .int := ⟨RX3, TX3, 12, tyX3, rfl, by decide, inG3, gw_of 205 (by decide +kernel) (by decide +kernel), tyX3_ok, nmX3, by decide +kernel, by decide +kernel⟩
theorem fkX1_48 : FOk RX1 48 3 3 := ⟨RX3, TX3, 12, rfl, by decide, inG3, gw_of 208 (by decide +kernel) (by decide +kernel)⟩
theorem fpX1_48 : FPok RX1 48 3 3 .int := ⟨RX3, TX3, 12, tyX3, rfl, by decide, inG3, gw_of 208 (by decide +kernel) (by decide +kernel), tyX3_ok, nmX3, by decide +kernel, by decide +kernel⟩
theorem fkX1_63 : FOk RX1 63 3 4 := ⟨RX3, TX3, 12, rfl, by decide, inG3, gw_of 211 (by decide +kernel) (by decide +kernel)⟩
theorem fpX1_63 : FPok RX1 63 3 4 .int := ⟨RX3, TX3, 12, tyX3, rfl, by decide, inG3, gw_of 211 (by decide +kernel) (by decide +kernel), tyX3_ok, nmX3, by decide +kernel, by decide +kernel⟩
theorem fkX1_66 : FOk RX1 66 3 8 := ⟨RX3, TX3, 12, rfl, by decide, inG3, gw_of 220 (by decide +kernel) (by decide +kernel)⟩
theorem fkX1_69 : FOk RX1 69 3 7 := ⟨RX3, TX3, 12, rfl, by decide, inG3, gw_of 218 (by decide +kernel) (by decide +kernel)⟩
theorem fkX1_72 : FOk RX1 72 3 5 := ⟨RX3, TX3, 12, rfl, by decide, inG3, gw_of 214 (by decide +kernel) (by decide +kernel)⟩
theorem fpX1_72 : FPok RX1 72 3 5 .int := ⟨RX3, TX3, 12, tyX3, rfl, by decide, inG3, gw_of 214 (by decide +kernel) (by decide +kernel), tyX3_ok, nmX3, by decide +kernel, by decide +kernel⟩
theorem fkX1_75 : FOk RX1 75 3 11 := ⟨RX3, TX3, 12, rfl, by decide, inG3, gw_of 227 (by decide +kernel) (by decide +kernel)⟩
theorem fkX1_78 : FOk RX1 78 3 6 := ⟨RX3, TX3, 12, rfl, by decide, inG3, gw_of 216 (by decide +kernel) (by decide +kernel)⟩
theorem fpX1_78 : FPok RX1 78 3 6 .int := ⟨RX3, TX3, 12, tyX3, rfl, by decide, inG3, gw_of 216 (by decide +kernel) (by decide +kernel), tyX3_ok, nmX3, by decide +kernel, by decide +kernel⟩
theorem fkX2_11 : FOk RX2 11 2 0 := ⟨RX2, TX2, 3, rfl, by decide, inG2, gw_of 181 (by decide +kernel) (by decide +kernel)⟩
theorem fkX2_17 : FOk RX2 17 2 1 := ⟨RX2, TX2, 3, rfl, by decide, inG2, gw_of 182 (by decide +kernel) (by decide +kernel)⟩
theorem fpX2_17 : FPok RX2 17 2 1 .int := ⟨RX2, TX2, 3, tyX2, rfl, by decide, inG2, gw_of 182 (by decide +kernel) (by decide +kernel), tyX2_ok, nmX2, by decide +kernel, by decide +kernel⟩
theorem fkX2_21 : FOk RX2 21 2 2 := ⟨RX2, TX2, 3, rfl, by decide, inG2, gw_of 183 (by decide +kernel) (by decide +kernel)⟩
theorem fpX2_21 : FPok RX2 21 2 2 .int := ⟨RX2, TX2, 3, tyX2, rfl, by decide, inG2, gw_of 183 (by decide +kernel) (by decide +kernel), tyX2_ok, nmX2, by decide +kernel, by decide +kernel⟩
theorem fkX3_9 : FOk RX3 9 3 0 := ⟨RX3, TX3, 12, rfl, by decide, inG3, gw_of 198 (by decide +kernel) (by decide +kernel)⟩
theorem fpX3_9 : FPok RX3 9 3 0 .int := ⟨RX3, TX3, 12, tyX3, rfl, by decide, inG3, gw_of 198 (by decide +kernel) (by decide +kernel), tyX3_ok, nmX3, by decide +kernel, by decide +kernel⟩
theorem fkX3_15 : FOk RX3 15 3 1 := ⟨RX3, TX3, 12, rfl, by decide, inG3, gw_of 201 (by decide +kernel) (by decide +kernel)⟩
theorem fpX3_15 : FPok RX3 15 3 1 .int := ⟨RX3, TX3, 12, tyX3, rfl, by decide, inG3, gw_of 201 (by decide +kernel) (by decide +kernel), tyX3_ok, nmX3, by decide +kernel, by decide +kernel⟩
theorem fkX3_18 : FOk RX3 18 3 2 := ⟨RX3, TX3, 12, rfl, by decide, inG3, gw_of 204 (by decide +kernel) (by decide +kernel)⟩
theorem fpX3_18 : FPok RX3 18 3 2 .int := ⟨RX3, TX3, 12, tyX3, rfl, by decide, inG3, gw_of 204 (by decide +kernel) (by decide +kernel), tyX3_ok, nmX3, by decide +kernel, by decide +kernel⟩
theorem fkX3_21 : FOk RX3 21 3 3 := ⟨RX3, TX3, 12, rfl, by decide, inG3, gw_of 207 (by decide +kernel) (by decide +kernel)⟩
theorem fpX3_21 : FPok RX3 21 3 3 .int := ⟨RX3, TX3, 12, tyX3, rfl, by decide, inG3, gw_of 207 (by decide +kernel) (by decide +kernel), tyX3_ok, nmX3, by decide +kernel, by decide +kernel⟩
theorem fkX3_24 : FOk RX3 24 3 4 := ⟨RX3, TX3, 12, rfl, by decide, inG3, gw_of 210 (by decide +kernel) (by decide +kernel)⟩
theorem fpX3_24 : FPok RX3 24 3 4 .int := ⟨RX3, TX3, 12, tyX3, rfl, by decide, inG3, gw_of 210 (by decide +kernel) (by decide +kernel), tyX3_ok, nmX3, by decide +kernel, by decide +kernel⟩
theorem fkX3_27 : FOk RX3 27 3 5 := ⟨RX3, TX3, 12, rfl, by decide, inG3, gw_of 213 (by decide +kernel) (by decide +kernel)⟩
theorem fpX3_27 : FPok RX3 27 3 5 .int := ⟨RX3, TX3, 12, tyX3, rfl, by decide, inG3, gw_of 213 (by decide +kernel) (by decide +kernel), tyX3_ok, nmX3, by decide +kernel, by decide +kernel⟩
theorem fkX3_30 : FOk RX3 30 3 6 := ⟨RX3, TX3, 12, rfl, by decide, inG3, gw_of 215 (by decide +kernel) (by decide +kernel)⟩
theorem fpX3_30 : FPok RX3 30 3 6 .int := ⟨RX3, TX3, 12, tyX3, rfl, by decide, inG3, gw_of 215 (by decide +kernel) (by decide +kernel), tyX3_ok, nmX3, by decide +kernel, by decide +kernel⟩
theorem fkX3_33 : FOk RX3 33 3 7 := ⟨RX3, TX3, 12, rfl, by decide, inG3, gw_of 217 (by decide +kernel) (by decide +kernel)⟩
theorem fkX3_37 : FOk RX3 37 3 8 := ⟨RX3, TX3, 12, rfl, by decide, inG3, gw_of 219 (by decide +kernel) (by decide +kernel)⟩
theorem fkX3_40 : FOk RX3 40 3 9 := ⟨RX3, TX3, 12, rfl, by decide, inG3, gw_of 222 (by decide +kernel) (by decide +kernel)⟩
theorem fkX3_43 : FOk RX3 43 3 10 := ⟨RX3, TX3, 12, rfl, by decide, inG3, gw_of 224 (by decide +kernel) (by decide +kernel)⟩
theorem fkX3_46 : FOk RX3 46 3 11 := ⟨RX3, TX3, 12, rfl, by decide, inG3, gw_of 226 (by decide +kernel) (by decide +kernel)⟩
theorem fkX3_49 : FOk RX3 49 4 0 := ⟨RX4, TX4, 12, rfl, by decide, inG4, gw_of 123 (by decide +kernel) (by decide +kernel)⟩
theorem fpX3_49 : FPok RX3 49 4 0 .int := ⟨RX4, TX4, 12, tyX4, rfl, by decide, inG4, gw_of 123 (by decide +kernel) (by decide +kernel), tyX4_ok, nmX4, by decide +kernel, by decide +kernel⟩
theorem fkX3_66 : FOk RX3 66 4 3 := ⟨RX4, TX4, 12, rfl, by decide, inG4, gw_of 131 (by decide +kernel) (by decide +kernel)⟩
theorem fkX3_82 : FOk RX3 82 4 4 := ⟨RX4, TX4, 12, rfl, by decide, inG4, gw_of 134 (by decide +kernel) (by decide +kernel)⟩
theorem fkX4_9 : FOk RX4 9 4 0 := ⟨RX4, TX4, 12, rfl, by decide, inG4, gw_of 122 (by decide +kernel) (by decide +kernel)⟩
theorem fpX4_9 : FPok RX4 9 4 0 .int := ⟨RX4, TX4, 12, tyX4, rfl, by decide, inG4, gw_of 122 (by decide +kernel) (by decide +kernel), tyX4_ok, nmX4, by decide +kernel, by decide +kernel⟩
theorem fkX4_15 : FOk RX4 15 4 1 := ⟨RX4, TX4, 12, rfl, by decide, inG4, gw_of 126 (by decide +kernel) (by decide +kernel)⟩
theorem fkX4_19 : FOk RX4 19 4 2 := ⟨RX4, TX4, 12, rfl, by decide, inG4, gw_of 128 (by decide +kernel) (by decide +kernel)⟩
theorem fkX4_22 : FOk RX4 22 4 3 := ⟨RX4, TX4, 12, rfl, by decide, inG4, gw_of 130 (by decide +kernel) (by decide +kernel)⟩
theorem fkX4_25 : FOk RX4 25 4 4 := ⟨RX4, TX4, 12, rfl, by decide, inG4, gw_of 133 (by decide +kernel) (by decide +kernel)⟩
theorem fkX4_28 : FOk RX4 28 4 5 := ⟨RX4, TX4, 12, rfl, by decide, inG4, gw_of 136 (by decide +kernel) (by decide +kernel)⟩
theorem fpX4_28 : FPok RX4 28 4 5 .int := ⟨RX4, TX4, 12, tyX4, rfl, by decide, inG4, gw_of 136 (by decide +kernel) (by decide +kernel), tyX4_ok, nmX4, by decide +kernel, by decide +kernel⟩
theorem fkX4_31 : FOk RX4 31 4 6 := ⟨RX4, TX4, 12, rfl, by decide, inG4, gw_of 139 (by decide +kernel) (by decide +kernel)⟩
theorem fkX4_34 : FOk RX4 34 4 7 := ⟨RX4, TX4, 12, rfl, by decide, inG4, gw_of 140 (by decide +kernel) (by decide +kernel)⟩
theorem fkX4_37 : FOk RX4 37 4 8 := ⟨RX4, TX4, 12, rfl, by decide, inG4, gw_of 141 (by decide +kernel) (by decide +kernel)⟩
theorem fpX4_37 : FPok RX4 37 4 8 .int := ⟨RX4, TX4, 12, tyX4, rfl, by decide, inG4, gw_of 141 (by decide +kernel) (by decide +kernel), tyX4_ok, nmX4, by decide +kernel, by decide +kernel⟩
theorem fkX4_40 : FOk RX4 40 4 9 := ⟨RX4, TX4, 12, rfl, by decide, inG4, gw_of 143 (by decide +kernel) (by decide +kernel)⟩
theorem fkX4_43 : FOk RX4 43 4 10 := ⟨RX4, TX4, 12, rfl, by decide, inG4, gw_of 144 (by decide +kernel) (by decide +kernel)⟩
theorem fkX4_46 : FOk RX4 46 4 11 := ⟨RX4, TX4, 12, rfl, by decide, inG4, gw_of 145 (by decide +kernel) (by decide +kernel)⟩
theorem fkX5_9 : FOk RX5 9 5 0 := ⟨RX5, TX5, 6, rfl, by decide, inG5, gw_of 94 (by decide +kernel) (by decide +kernel)⟩
theorem fkX5_15 : FOk RX5 15 5 1 := ⟨RX5, TX5, 6, rfl, by decide, inG5, gw_of 96 (by decide +kernel) (by decide +kernel)⟩
theorem fpX5_15 : FPok RX5 15 5 1 .int := ⟨RX5, TX5, 6, tyX5, rfl, by decide, inG5, gw_of 96 (by decide +kernel) (by decide +kernel), tyX5_ok, nmX5, by decide +kernel, by decide +kernel⟩
theorem fkX5_19 : FOk RX5 19 5 2 := ⟨RX5, TX5, 6, rfl, by decide, inG5, gw_of 98 (by decide +kernel) (by decide +kernel)⟩
theorem fpX5_19 : FPok RX5 19 5 2 .int := ⟨RX5, TX5, 6, tyX5, rfl, by decide, inG5, gw_of 98 (by decide +kernel) (by decide +kernel), tyX5_ok, nmX5, by decide +kernel, by decide +kernel⟩
theorem fkX5_22 : FOk RX5 22 5 3 := ⟨RX5, TX5, 6, rfl, by decide, inG5, gw_of 99 (by decide +kernel) (by decide +kernel)⟩
theorem fpX5_22 : FPok RX5 22 5 3 .int := ⟨RX5, TX5, 6, tyX5, rfl, by decide, inG5, gw_of 99 (by decide +kernel) (by decide +kernel), tyX5_ok, nmX5, by decide +kernel, by decide +kernel⟩
theorem fkX5_25 : FOk RX5 25 5 4 := ⟨RX5, TX5, 6, rfl, by decide, inG5, gw_of 100 (by decide +kernel) (by decide +kernel)⟩
theorem fpX5_25 : FPok RX5 25 5 4 .int := ⟨RX5, TX5, 6, tyX5, rfl, by decide, inG5, gw_of 100 (by decide +kernel) (by decide +kernel), tyX5_ok, nmX5, by decide +kernel, by decide +kernel⟩
theorem fkX5_28 : FOk RX5 28 5 5 := ⟨RX5, TX5, 6, rfl, by decide, inG5, gw_of 101 (by decide +kernel) (by decide +kernel)⟩
theorem fkX5_62 : FOk RX5 62 4 5 := ⟨RX4, TX4, 12, rfl, by decide, inG4, gw_of 137 (by decide +kernel) (by decide +kernel)⟩
theorem fpX5_62 : FPok RX5 62 4 5 .int := ⟨RX4, TX4, 12, tyX4, rfl, by decide, inG4, gw_of 137 (by decide +kernel) (by decide +kernel), tyX4_ok, nmX4, by decide +kernel, by decide +kernel⟩
theorem fkX5_65 : FOk RX5 65 4 0 := ⟨RX4, TX4, 12, rfl, by decide, inG4, gw_of 124 (by decide +kernel) (by decide +kernel)⟩
theorem fpX5_65 : FPok RX5 65 4 0 .int := ⟨RX4, TX4, 12, tyX4, rfl, by decide, inG4, gw_of 124 (by decide +kernel) (by decide +kernel), tyX4_ok, nmX4, by decide +kernel, by decide +kernel⟩
theorem fkX7_7 : FOk RX7 7 7 1 := ⟨RX7, TX7, 17, rfl, by decide, inG7, gw_of 804 (by decide +kernel) (by decide +kernel)⟩
theorem fkX7_13 : FOk RX7 13 7 2 := ⟨RX7, TX7, 17, rfl, by decide, inG7, gw_of 805 (by decide +kernel) (by decide +kernel)⟩
theorem fkX7_16 : FOk RX7 16 7 3 := ⟨RX7, TX7, 17, rfl, by decide, inG7, gw_of 806 (by decide +kernel) (by decide +kernel)⟩
theorem fkX7_19 : FOk RX7 19 7 5 := ⟨RX7, TX7, 17, rfl, by decide, inG7, gw_of 808 (by decide +kernel) (by decide +kernel)⟩
theorem fkX7_22 : FOk RX7 22 7 12 := ⟨RX7, TX7, 17, rfl, by decide, inG7, gw_of 815 (by decide +kernel) (by decide +kernel)⟩
theorem fkX7_25 : FOk RX7 25 7 14 := ⟨RX7, TX7, 17, rfl, by decide, inG7, gw_of 817 (by decide +kernel) (by decide +kernel)⟩
theorem fkX7_29 : FOk RX7 29 7 15 := ⟨RX7, TX7, 17, rfl, by decide, inG7, gw_of 818 (by decide +kernel) (by decide +kernel)⟩
theorem fkX7_32 : FOk RX7 32 7 0 := ⟨RX7, TX7, 17, rfl, by decide, inG7, gw_of 803 (by decide +kernel) (by decide +kernel)⟩
theorem fpX7_32 : FPok RX7 32 7 0 .int := ⟨RX7, TX7, 17, tyX7, rfl, by decide, inG7, gw_of 803 (by decide +kernel) (by decide +kernel), tyX7_ok, nmX7, by decide +kernel, by decide +kernel⟩
theorem fkX7_36 : FOk RX7 36 7 6 := ⟨RX7, TX7, 17, rfl, by decide, inG7, gw_of 809 (by decide +kernel) (by decide +kernel)⟩
theorem fpX7_36 : FPok RX7 36 7 6 .int := ⟨RX7, TX7, 17, tyX7, rfl, by decide, inG7, gw_of 809 (by decide +kernel) (by decide +kernel), tyX7_ok, nmX7, by decide +kernel, by decide +kernel⟩
theorem fkX7_39 : FOk RX7 39 7 8 := ⟨RX7, TX7, 17, rfl, by decide, inG7, gw_of 811 (by decide +kernel) (by decide +kernel)⟩
theorem fpX7_39 : FPok RX7 39 7 8 .int := ⟨RX7, TX7, 17, tyX7, rfl, by decide, inG7, gw_of 811 (by decide +kernel) (by decide +kernel), tyX7_ok, nmX7, by decide +kernel, by decide +kernel⟩
theorem fkX7_42 : FOk RX7 42 7 7 := ⟨RX7, TX7, 17, rfl, by decide, inG7, gw_of 810 (by decide +kernel) (by decide +kernel)⟩
theorem fpX7_42 : FPok RX7 42 7 7 .int := ⟨RX7, TX7, 17, tyX7, rfl, by decide, inG7, gw_of 810 (by decide +kernel) (by decide +kernel), tyX7_ok, nmX7, by decide +kernel, by decide +kernel⟩
theorem fkX7_53 : FOk RX7 53 7 9 := ⟨RX7, TX7, 17, rfl, by decide, inG7, gw_of 812 (by decide +kernel) (by decide +kernel)⟩
theorem fpX7_53 : FPok RX7 53 7 9 .int := ⟨RX7, TX7, 17, tyX7, rfl, by decide, inG7, gw_of 812 (by decide +kernel) (by decide +kernel), tyX7_ok, nmX7, by decide +kernel, by decide +kernel⟩
theorem fkX7_64 : FOk RX7 64 7 10 := ⟨RX7, TX7, 17, rfl, by decide, inG7, gw_of 813 (by decide +kernel) (by decide +kernel)⟩
theorem fpX7_64 : FPok RX7 64 7 10 .int := ⟨RX7, TX7, 17, tyX7, rfl, by decide, inG7, gw_of 813 (by decide +kernel) (by decide +kernel), tyX7_ok, nmX7, by decide +kernel, by decide +kernel⟩
theorem fkX7_67 : FOk RX7 67 7 11 := ⟨RX7, TX7, 17, rfl, by decide, inG7, gw_of 814 (by decide +kernel) (by decide +kernel)⟩
theorem fpX7_67 : FPok RX7 67 7 11 .int := ⟨RX7, TX7, 17, tyX7, rfl, by decide, inG7, gw_of 814 (by decide +kernel) (by decide +kernel), tyX7_ok, nmX7, by decide +kernel, by decide +kernel⟩
theorem fkX7_105 : FOk RX7 105 7 4 := ⟨RX7, TX7, 17, rfl, by decide, inG7, gw_of 807 (by decide +kernel) (by decide +kernel)⟩
theorem fpX7_105 : FPok RX7 105 7 4 .int := ⟨RX7, TX7, 17, tyX7, rfl, by decide, inG7, gw_of 807 (by decide +kernel) (by decide +kernel), tyX7_ok, nmX7, by decide +kernel, by decide +kernel⟩
theorem fkX7_154 : FOk RX7 154 7 13 := ⟨RX7, TX7, 17, rfl, by decide, inG7, gw_of 816 (by decide +kernel) (by decide +kernel)⟩
theorem fpX7_154 : FPok RX7 154 7 13 .int := ⟨RX7, TX7, 17, tyX7, rfl, by decide, inG7, gw_of 816 (by decide +kernel) (by decide +kernel), tyX7_ok, nmX7, by decide +kernel, by decide +kernel⟩
theorem fkX7_172 : FOk RX7 172 7 16 := ⟨RX7, TX7, 17, rfl, by decide, inG7, gw_of 819 (by decide +kernel) (by decide +kernel)⟩
theorem fpX7_172 : FPok RX7 172 7 16 .int := ⟨RX7, TX7, 17, tyX7, rfl, by decide, inG7, gw_of 819 (by decide +kernel) (by decide +kernel), tyX7_ok, nmX7, by decide +kernel, by decide +kernel⟩
theorem kcJ6_265 : Cond.constant RJ6 265 1431655765 ∈ GW := gw_of 742 (by decide +kernel) (by decide +kernel)
theorem kcJ6_266 : Cond.constant RJ6 266 858993459 ∈ GW := gw_of 743 (by decide +kernel) (by decide +kernel)
theorem kcJ6_267 : Cond.constant RJ6 267 252645135 ∈ GW := gw_of 744 (by decide +kernel) (by decide +kernel)
theorem wcpX4_55 : ∀ w ∈ ([.methodLink RX4 55 arraycopyName, .native arraycopyName, .static arraycopyName, .initialized "java/lang/System"] : List Cond), w ∈ GW := gw_all _ [488, 490, 489, 77] (by decide +kernel) (by decide +kernel)
theorem wmnX2_29 : ∀ w ∈ ([.methodLink RX2 29 Lib.Math.min.name, .static Lib.Math.min.name, .initialized "java/lang/Math", .code Lib.Math.min.name Lib.Math.min.code 2 (some .int)] : List Cond), w ∈ GW := gw_all _ [491, 492, 78, 493] (by decide +kernel) (by decide +kernel)
/-! What the cells are. -/
theorem ca_0 : cAt 0 = some 6 := by decide +kernel
theorem fa_0_0 : fAt 0 0 = some (6, some 1) := by decide +kernel
theorem fa_0_1 : fAt 0 1 = some (6, some 34) := by decide +kernel
theorem fa_0_2 : fAt 0 2 = some (6, some 44) := by decide +kernel
theorem fa_0_3 : fAt 0 3 = some (6, some 4) := by decide +kernel
theorem fa_0_4 : fAt 0 4 = some (6, some 6) := by decide +kernel
theorem fa_0_5 : fAt 0 5 = some (6, some 12) := by decide +kernel
theorem fa_0_6 : fAt 0 6 = some (6, some 22) := by decide +kernel
theorem fa_0_7 : fAt 0 7 = some (6, some 24) := by decide +kernel
theorem fa_0_8 : fAt 0 8 = some (6, none) := by decide +kernel
theorem ca_1 : cAt 1 = some 5 := by decide +kernel
theorem fa_1_0 : fAt 1 0 = some (5, some 2) := by decide +kernel
theorem fa_1_1 : fAt 1 1 = some (5, none) := by decide +kernel
theorem fa_1_2 : fAt 1 2 = some (5, none) := by decide +kernel
theorem fa_1_3 : fAt 1 3 = some (5, none) := by decide +kernel
theorem fa_1_4 : fAt 1 4 = some (5, none) := by decide +kernel
theorem fa_1_5 : fAt 1 5 = some (5, some 3) := by decide +kernel
theorem aa_2 : aAt 2 = some (0, 160) := by decide +kernel
theorem aa_3 : aAt 3 = some (0, 3) := by decide +kernel
theorem ca_4 : cAt 4 = some 2 := by decide +kernel
theorem fa_4_0 : fAt 4 0 = some (2, some 5) := by decide +kernel
theorem fa_4_1 : fAt 4 1 = some (2, none) := by decide +kernel
theorem fa_4_2 : fAt 4 2 = some (2, none) := by decide +kernel
theorem ra_5 : rAt 5 = some [54, 64, 74, 84, 94] := by decide +kernel
theorem ca_6 : cAt 6 = some 3 := by decide +kernel
theorem fa_6_0 : fAt 6 0 = some (3, none) := by decide +kernel
theorem fa_6_1 : fAt 6 1 = some (3, none) := by decide +kernel
theorem fa_6_2 : fAt 6 2 = some (3, none) := by decide +kernel
theorem fa_6_3 : fAt 6 3 = some (3, none) := by decide +kernel
theorem fa_6_4 : fAt 6 4 = some (3, none) := by decide +kernel
theorem fa_6_5 : fAt 6 5 = some (3, none) := by decide +kernel
theorem fa_6_6 : fAt 6 6 = some (3, none) := by decide +kernel
theorem fa_6_7 : fAt 6 7 = some (3, some 7) := by decide +kernel
theorem fa_6_8 : fAt 6 8 = some (3, some 8) := by decide +kernel
theorem fa_6_9 : fAt 6 9 = some (3, some 9) := by decide +kernel
theorem fa_6_10 : fAt 6 10 = some (3, some 10) := by decide +kernel
theorem fa_6_11 : fAt 6 11 = some (3, some 11) := by decide +kernel
theorem aa_7 : aAt 7 = some (0, 10) := by decide +kernel
theorem aa_8 : aAt 8 = some (0, 10) := by decide +kernel
theorem aa_9 : aAt 9 = some (0, 10) := by decide +kernel
theorem aa_10 : aAt 10 = some (0, 10) := by decide +kernel
theorem aa_11 : aAt 11 = some (0, 10) := by decide +kernel
theorem ca_12 : cAt 12 = some 0 := by decide +kernel
theorem fa_12_0 : fAt 12 0 = some (0, some 13) := by decide +kernel
theorem fa_12_1 : fAt 12 1 = some (0, some 14) := by decide +kernel
theorem fa_12_2 : fAt 12 2 = some (0, some 15) := by decide +kernel
theorem fa_12_3 : fAt 12 3 = some (0, some 16) := by decide +kernel
theorem fa_12_4 : fAt 12 4 = some (0, some 17) := by decide +kernel
theorem fa_12_5 : fAt 12 5 = some (0, some 18) := by decide +kernel
theorem fa_12_6 : fAt 12 6 = some (0, some 19) := by decide +kernel
theorem fa_12_7 : fAt 12 7 = some (0, none) := by decide +kernel
theorem fa_12_8 : fAt 12 8 = some (0, some 20) := by decide +kernel
theorem fa_12_9 : fAt 12 9 = some (0, some 21) := by decide +kernel
theorem fa_12_10 : fAt 12 10 = some (0, none) := by decide +kernel
theorem aa_13 : aAt 13 = some (0, 10) := by decide +kernel
theorem aa_14 : aAt 14 = some (0, 10) := by decide +kernel
theorem aa_15 : aAt 15 = some (0, 100) := by decide +kernel
theorem aa_16 : aAt 16 = some (0, 100) := by decide +kernel
theorem aa_17 : aAt 17 = some (0, 100) := by decide +kernel
theorem aa_18 : aAt 18 = some (0, 100) := by decide +kernel
theorem aa_19 : aAt 19 = some (0, 100) := by decide +kernel
theorem aa_20 : aAt 20 = some (0, 100) := by decide +kernel
theorem aa_21 : aAt 21 = some (0, 100) := by decide +kernel
theorem ca_22 : cAt 22 = some 1 := by decide +kernel
theorem fa_22_0 : fAt 22 0 = some (1, some 23) := by decide +kernel
theorem fa_22_1 : fAt 22 1 = some (1, none) := by decide +kernel
theorem aa_23 : aAt 23 = some (0, 10) := by decide +kernel
theorem ca_24 : cAt 24 = some 1 := by decide +kernel
theorem fa_24_0 : fAt 24 0 = some (1, some 25) := by decide +kernel
theorem fa_24_1 : fAt 24 1 = some (1, none) := by decide +kernel
theorem aa_25 : aAt 25 = some (0, 10) := by decide +kernel
theorem ca_26 : cAt 26 = some 7 := by decide +kernel
theorem fa_26_0 : fAt 26 0 = some (7, none) := by decide +kernel
theorem fa_26_1 : fAt 26 1 = some (7, some 27) := by decide +kernel
theorem fa_26_2 : fAt 26 2 = some (7, some 28) := by decide +kernel
theorem fa_26_3 : fAt 26 3 = some (7, some 29) := by decide +kernel
theorem fa_26_4 : fAt 26 4 = some (7, none) := by decide +kernel
theorem fa_26_5 : fAt 26 5 = some (7, some 30) := by decide +kernel
theorem fa_26_6 : fAt 26 6 = some (7, none) := by decide +kernel
theorem fa_26_7 : fAt 26 7 = some (7, none) := by decide +kernel
theorem fa_26_8 : fAt 26 8 = some (7, none) := by decide +kernel
theorem fa_26_9 : fAt 26 9 = some (7, none) := by decide +kernel
theorem fa_26_10 : fAt 26 10 = some (7, none) := by decide +kernel
theorem fa_26_11 : fAt 26 11 = some (7, none) := by decide +kernel
theorem fa_26_12 : fAt 26 12 = some (7, some 31) := by decide +kernel
theorem fa_26_13 : fAt 26 13 = some (7, none) := by decide +kernel
theorem fa_26_14 : fAt 26 14 = some (7, some 32) := by decide +kernel
theorem fa_26_15 : fAt 26 15 = some (7, some 33) := by decide +kernel
theorem fa_26_16 : fAt 26 16 = some (7, none) := by decide +kernel
theorem aa_27 : aAt 27 = some (0, 81) := by decide +kernel
theorem aa_28 : aAt 28 = some (0, 81) := by decide +kernel
theorem aa_29 : aAt 29 = some (0, 405) := by decide +kernel
theorem aa_30 : aAt 30 = some (0, 160) := by decide +kernel
theorem aa_31 : aAt 31 = some (0, 100) := by decide +kernel
theorem aa_32 : aAt 32 = some (1, 100) := by decide +kernel
theorem aa_33 : aAt 33 = some (0, 100) := by decide +kernel
def isSt (b : Nat) : Prop := b = 34 ∨ b = 44 ∨ b = 54 ∨ b = 64 ∨ b = 74 ∨ b = 84 ∨ b = 94
theorem isSt_34 : isSt 34 := Or.inl rfl
theorem isSt_44 : isSt 44 := Or.inr (Or.inl rfl)
theorem cs_ {b : Nat} (h : isSt b) : cAt b = some 4 := by rcases h with rfl | rfl | rfl | rfl | rfl | rfl | rfl <;> decide +kernel
theorem fs_0 {b : Nat} (h : isSt b) : fAt b 0 = some (4, none) := by rcases h with rfl | rfl | rfl | rfl | rfl | rfl | rfl <;> decide +kernel
theorem fs_1 {b : Nat} (h : isSt b) : fAt b 1 = some (4, some (b + 1)) := by rcases h with rfl | rfl | rfl | rfl | rfl | rfl | rfl <;> decide +kernel
theorem fs_2 {b : Nat} (h : isSt b) : fAt b 2 = some (4, some (b + 2)) := by rcases h with rfl | rfl | rfl | rfl | rfl | rfl | rfl <;> decide +kernel
theorem fs_3 {b : Nat} (h : isSt b) : fAt b 3 = some (4, some (b + 3)) := by rcases h with rfl | rfl | rfl | rfl | rfl | rfl | rfl <;> decide +kernel
theorem fs_4 {b : Nat} (h : isSt b) : fAt b 4 = some (4, some (b + 4)) := by rcases h with rfl | rfl | rfl | rfl | rfl | rfl | rfl <;> decide +kernel
theorem fs_5 {b : Nat} (h : isSt b) : fAt b 5 = some (4, none) := by rcases h with rfl | rfl | rfl | rfl | rfl | rfl | rfl <;> decide +kernel
theorem fs_6 {b : Nat} (h : isSt b) : fAt b 6 = some (4, some (b + 5)) := by rcases h with rfl | rfl | rfl | rfl | rfl | rfl | rfl <;> decide +kernel
theorem fs_7 {b : Nat} (h : isSt b) : fAt b 7 = some (4, some (b + 6)) := by rcases h with rfl | rfl | rfl | rfl | rfl | rfl | rfl <;> decide +kernel
theorem fs_8 {b : Nat} (h : isSt b) : fAt b 8 = some (4, none) := by rcases h with rfl | rfl | rfl | rfl | rfl | rfl | rfl <;> decide +kernel
theorem fs_9 {b : Nat} (h : isSt b) : fAt b 9 = some (4, some (b + 7)) := by rcases h with rfl | rfl | rfl | rfl | rfl | rfl | rfl <;> decide +kernel
theorem fs_10 {b : Nat} (h : isSt b) : fAt b 10 = some (4, some (b + 8)) := by rcases h with rfl | rfl | rfl | rfl | rfl | rfl | rfl <;> decide +kernel
theorem fs_11 {b : Nat} (h : isSt b) : fAt b 11 = some (4, some (b + 9)) := by rcases h with rfl | rfl | rfl | rfl | rfl | rfl | rfl <;> decide +kernel
theorem as_1 {b : Nat} (h : isSt b) : aAt (b + 1) = some (0, 10) := by rcases h with rfl | rfl | rfl | rfl | rfl | rfl | rfl <;> decide +kernel
theorem as_2 {b : Nat} (h : isSt b) : aAt (b + 2) = some (0, 10) := by rcases h with rfl | rfl | rfl | rfl | rfl | rfl | rfl <;> decide +kernel
theorem as_3 {b : Nat} (h : isSt b) : aAt (b + 3) = some (0, 10) := by rcases h with rfl | rfl | rfl | rfl | rfl | rfl | rfl <;> decide +kernel
theorem as_4 {b : Nat} (h : isSt b) : aAt (b + 4) = some (0, 10) := by rcases h with rfl | rfl | rfl | rfl | rfl | rfl | rfl <;> decide +kernel
theorem as_5 {b : Nat} (h : isSt b) : aAt (b + 5) = some (0, 10) := by rcases h with rfl | rfl | rfl | rfl | rfl | rfl | rfl <;> decide +kernel
theorem as_6 {b : Nat} (h : isSt b) : aAt (b + 6) = some (0, 10) := by rcases h with rfl | rfl | rfl | rfl | rfl | rfl | rfl <;> decide +kernel
theorem as_7 {b : Nat} (h : isSt b) : aAt (b + 7) = some (0, 4) := by rcases h with rfl | rfl | rfl | rfl | rfl | rfl | rfl <;> decide +kernel
theorem as_8 {b : Nat} (h : isSt b) : aAt (b + 8) = some (0, 4) := by rcases h with rfl | rfl | rfl | rfl | rfl | rfl | rfl <;> decide +kernel
theorem as_9 {b : Nat} (h : isSt b) : aAt (b + 9) = some (0, 10) := by rcases h with rfl | rfl | rfl | rfl | rfl | rfl | rfl <;> decide +kernel
def isCl (b : Nat) : Prop := b = 22 ∨ b = 24
theorem cc_ {b : Nat} (h : isCl b) : cAt b = some 1 := by rcases h with rfl | rfl <;> decide +kernel
theorem fc_0 {b : Nat} (h : isCl b) : fAt b 0 = some (1, some (b + 1)) := by rcases h with rfl | rfl <;> decide +kernel
theorem fc_1 {b : Nat} (h : isCl b) : fAt b 1 = some (1, none) := by rcases h with rfl | rfl <;> decide +kernel
theorem ac_1 {b : Nat} (h : isCl b) : aAt (b + 1) = some (0, 10) := by rcases h with rfl | rfl <;> decide +kernel
def bz (v : Int32) : Prop := narrow .boolean (.int v) = .int v
end
section
/-! Numbers, and what a state is: s is the reference's row of 81 numbers. -/
def bi (b : Bool) : Int32 := if b then 1 else 0
theorem bi_t : bi true = 1 := rfl
theorem bi_f : bi false = 0 := rfl
theorem bi_eq0 {b : Bool} : bi b = 0 ↔ b = false := by cases b <;> decide
theorem bi_ne0 {b : Bool} : ¬ bi b = 0 ↔ b = true := by cases b <;> decide
theorem bi_eq1 {b : Bool} : bi b = 1 ↔ b = true := by cases b <;> decide
theorem bz_bi (b : Bool) : bz (bi b) := by cases b <;> (unfold bz; decide)
theorem bz_0 : bz 0 := by unfold bz; decide
theorem bz_1 : bz 1 := by unfold bz; decide
theorem lt_iff32 (a b : Int32) : a < b ↔ a.toInt < b.toInt := Int32.lt_iff_toInt_lt
theorem le_iff32 (a b : Int32) : a ≤ b ↔ a.toInt ≤ b.toInt := Int32.le_iff_toInt_le
theorem eq_iff32 (a b : Int32) : a = b ↔ a.toInt = b.toInt := Int32.toInt_inj.symm
theorem lit32 (n : Nat) : (OfNat.ofNat n : Int32) = nI n := rfl
theorem ix_nI {n : Nat} (h : n < 2 ^ 31) : (nI n).toNatClampNeg = n := nI_clamp h
theorem rng32 (x : Int32) : -2147483648 ≤ x.toInt ∧ x.toInt < 2147483648 := by
  have h1 := Int32.le_toInt x
  have h2 := Int32.toInt_lt x
  constructor <;> simpa using by omega
theorem ix_toInt (x : Int32) (h : 0 ≤ x.toInt) : (x.toNatClampNeg : Int) = x.toInt := by
  show ((x.toInt.toNat : Nat) : Int) = x.toInt
  omega
theorem nI_ix {x : Int32} (h : 0 ≤ x.toInt) : nI x.toNatClampNeg = x := by
  have h1 := rng32 x
  have h2 := ix_toInt x h
  rw [eq_iff32, nI_toInt (by omega)]
  exact h2
/-- x is one of 0 .. n - 1 -/
def inR (n : Nat) (x : Int32) : Bool := decide (0 ≤ x.toInt ∧ x.toNatClampNeg < n)
theorem inR_ex {n : Nat} {x : Int32} (h : inR n x = true) : x.toNatClampNeg < n ∧ x = nI x.toNatClampNeg := by
  simp only [inR, decide_eq_true_eq] at h
  exact ⟨h.2, (nI_ix h.1).symm⟩
theorem inR_nI {n j : Nat} (h : j < 2 ^ 31) : inR n (nI j) = decide (j < n) := by
  simp only [inR, ix_nI h, nI_toInt h]
  have : (0 : Int) ≤ (j : Int) := by omega
  simp [this]
theorem inR_neg {n : Nat} {x : Int32} (h : x < 0) : inR n x = false := by
  rw [lt_iff32] at h
  have h0 : (0 : Int32).toInt = 0 := rfl
  rw [h0] at h
  simp only [inR, decide_eq_false_iff_not]
  omega
theorem inR_big {n : Nat} {x : Int32} (hn : n < 2 ^ 31) (h : nI n ≤ x) : inR n x = false := by
  rw [le_iff32, nI_toInt hn] at h
  have := ix_toInt x (by omega)
  simp only [inR, decide_eq_false_iff_not]
  omega
theorem inR_yes {n : Nat} {x : Int32} (hn : n < 2 ^ 31) (h0 : ¬ x < 0) (h : ¬ nI n ≤ x) : inR n x = true := by
  rw [lt_iff32, show (0 : Int32).toInt = 0 from rfl] at h0
  rw [le_iff32, nI_toInt hn] at h
  have := ix_toInt x (by omega)
  simp only [inR, decide_eq_true_eq]
  omega
theorem vp_inR {n N : Nat} {x : Int32} (h : inR n x = true) (hN : n ≤ N) (h2 : N < 2 ^ 31) : vp_in x N := by
  obtain ⟨h1, h3⟩ := inR_ex h
  rw [h3]
  exact vp_in_nI (by omega) h2
theorem vp_nI {n N : Nat} (h : n < N) (h2 : N < 2 ^ 31) : vp_in (nI n) N := vp_in_nI h h2
theorem nI_ne_neg {n : Nat} (h : n < 2 ^ 31) {x : Int32} (hx : x.toInt < 0) : ¬ nI n = x := by
  rw [eq_iff32, nI_toInt h]; omega
theorem neg_ne_nI {n : Nat} (h : n < 2 ^ 31) {x : Int32} (hx : x.toInt < 0) : ¬ x = nI n := by
  rw [eq_iff32, nI_toInt h]; omega
abbrev St : Type := Nat → Nat
def OkO (s : St) (i : Nat) : Prop := s (1 + i) ≤ 3 ∧ s (31 + i) ≤ 5 ∧ (s (1 + i) = 0 → s (11 + i) ≤ 15) ∧ (s (1 + i) = 1 → s (11 + i) ≤ 3 ∧ s (21 + i) < s 0) ∧ (s (1 + i) = 2 → s (11 + i) ≤ 3) ∧ (s (1 + i) = 3 → s (11 + i) < s 0 ∧ s (1 + s (11 + i)) = 0)
/-- a state as the document has it -/
def WF (s : St) : Prop := s 0 ≤ 10 ∧ (∀ i, i < s 0 → OkO s i) ∧ s 41 ≤ 10 ∧ (∀ k, k < s 41 → s (42 + 2 * k) < s 0 ∧ (s (1 + s (42 + 2 * k)) = 0 ∨ s (1 + s (42 + 2 * k)) = 3) ∧ s (42 + 2 * k + 1) < s 0) ∧ s 62 ≤ 4 ∧ (∀ k, k < s 62 → s (63 + 2 * k) < s 0 ∧ s (63 + 2 * k + 1) < s 0) ∧ ∀ i, i < 10 → s (71 + i) < 1024
/-- the class's State at the cell b holds s -/
def CS (b : Nat) (s : St) (g : Mem) : Prop :=
  g b 0 = nI (s 0) ∧ (∀ i, i < s 0 → g (b + 1) i = nI (s (1 + i))) ∧ (∀ i, i < s 0 → s (1 + i) ≠ 3 → g (b + 2) i = nI (s (11 + i))) ∧
  (∀ i, i < s 0 → (s (1 + i) = 1 → g (b + 3) i = nI (s (21 + i))) ∧ (s (1 + i) = 3 → g (b + 3) i = nI (s (11 + i)))) ∧ (∀ i, i < s 0 → g (b + 4) i = nI (s (31 + i))) ∧
  g b 5 = nI (s 41) ∧ (∀ k, k < s 41 → g (b + 5) k = nI (s (42 + 2 * k)) ∧ g (b + 6) k = nI (s (42 + 2 * k + 1))) ∧
  g b 8 = nI (s 62) ∧ (∀ k, k < s 62 → g (b + 7) k = nI (s (63 + 2 * k)) ∧ g (b + 8) k = nI (s (63 + 2 * k + 1))) ∧ ∀ i, i < 10 → g (b + 9) i = nI (s (71 + i))
/-- the reference holds s -/
def MA (q : Nat) (s : St) (g : Mem) : Prop := ∀ j, j < 81 → g q j = nI (s j)
def CW (b : Nat) (s : St) (g : Mem) : Prop := CS b s g ∧ WF s
def MW (q : Nat) (s : St) (g : Mem) : Prop := MA q s g ∧ WF s
theorem WF.n {s : St} (h : WF s) : s 0 ≤ 10 := h.1
theorem WF.o {s : St} (h : WF s) {i : Nat} (hi : i < s 0) : OkO s i := h.2.1 i hi
theorem WF.kd {s : St} (h : WF s) {i : Nat} (hi : i < s 0) : s (1 + i) ≤ 3 := (h.2.1 i hi).1
theorem WF.nr {s : St} (h : WF s) : s 41 ≤ 10 := h.2.2.1
theorem WF.rf {s : St} (h : WF s) {k : Nat} (hk : k < s 41) : s (42 + 2 * k) < s 0 ∧ (s (1 + s (42 + 2 * k)) = 0 ∨ s (1 + s (42 + 2 * k)) = 3) ∧ s (42 + 2 * k + 1) < s 0 := h.2.2.2.1 k hk
theorem WF.nq {s : St} (h : WF s) : s 62 ≤ 4 := h.2.2.2.2.1
theorem WF.rq {s : St} (h : WF s) {k : Nat} (hk : k < s 62) : s (63 + 2 * k) < s 0 ∧ s (63 + 2 * k + 1) < s 0 := h.2.2.2.2.2.1 k hk
theorem WF.rn {s : St} (h : WF s) {i : Nat} (hi : i < 10) : s (71 + i) < 1024 := h.2.2.2.2.2.2 i hi
theorem WF.fi {s : St} (h : WF s) {i : Nat} (hi : i < s 0) : s (11 + i) ≤ 15 := by
  obtain ⟨h1, h2, h3, h4, h5, h6⟩ := h.o hi
  have hn := h.n
  rcases (show s (1 + i) = 0 ∨ s (1 + i) = 1 ∨ s (1 + i) = 2 ∨ s (1 + i) = 3 by omega) with e | e | e | e
  · exact h3 e
  · have := (h4 e).1; omega
  · have := h5 e; omega
  · have := (h6 e).1; omega
/-- the first i of a run of n from i on that p has; behind the run if there is none -/
def ff (p : Nat → Bool) : Nat → Nat → Nat
  | i, 0 => i
  | i, n + 1 => if p i then i else ff p (i + 1) n
theorem ff_bounds (p : Nat → Bool) : ∀ n i, i ≤ ff p i n ∧ ff p i n ≤ i + n
  | 0, i => ⟨Nat.le_refl _, Nat.le_refl _⟩
  | n + 1, i => by
    have h := ff_bounds p n (i + 1)
    rw [ff]
    split <;> omega
theorem ff_yes (p : Nat → Bool) : ∀ n i, ff p i n < i + n → p (ff p i n) = true
  | 0, i, h => by simp [ff] at h
  | n + 1, i, h => by
    rw [ff] at h ⊢
    by_cases hp : p i
    · rw [if_pos hp]; exact hp
    · rw [if_neg hp] at h ⊢
      exact ff_yes p n (i + 1) (by omega)
theorem ff_no (p : Nat → Bool) : ∀ n i j, i ≤ j → j < ff p i n → p j = false
  | 0, i, j, h1, h2 => by simp [ff] at h2; omega
  | n + 1, i, j, h1, h2 => by
    rw [ff] at h2
    by_cases hp : p i
    · rw [if_pos hp] at h2; omega
    · rw [if_neg hp] at h2
      rcases Nat.eq_or_lt_of_le h1 with e | e
      · subst e; simpa using hp
      · exact ff_no p n (i + 1) j e h2
theorem ff_lt (p : Nat → Bool) (n i : Nat) : ff p i n < i + n ↔ ∃ j, i ≤ j ∧ j < i + n ∧ p j = true := by
  constructor
  · intro h
    exact ⟨_, (ff_bounds p n i).1, h, ff_yes p n i h⟩
  · intro ⟨j, h1, h2, h3⟩
    rcases Nat.lt_or_ge (ff p i n) (i + n) with h | h
    · exact h
    · have := ff_no p n i j h1 (by omega)
      rw [this] at h3
      cases h3
theorem ff_cong {p q : Nat → Bool} : ∀ n i, (∀ j, i ≤ j → j < i + n → p j = q j) → ff p i n = ff q i n
  | 0, i, _ => rfl
  | n + 1, i, h => by
    rw [ff, ff, h i (Nat.le_refl _) (by omega), ff_cong n (i + 1) (fun j h1 h2 => h j (by omega) (by omega))]
theorem ff_eq {p : Nat → Bool} {n i j : Nat} (h1 : i ≤ j) (h2 : j < i + n) (hp : p j = true) (hn : ∀ k, i ≤ k → k < j → p k = false) : ff p i n = j := by
  have hlt : ff p i n < i + n := (ff_lt p n i).mpr ⟨j, h1, h2, hp⟩
  have hb := ff_bounds p n i
  rcases Nat.lt_trichotomy (ff p i n) j with h | h | h
  · have := hn _ hb.1 h
    rw [ff_yes p n i hlt] at this
    cases this
  · exact h
  · have := ff_no p n i j h1 h
    rw [hp] at this
    cases this
/-- the found place, or a word for none -/
def fI (none_ : Int32) (p : Nat → Bool) (n : Nat) : Int32 := if ff p 0 n < n then nI (ff p 0 n) else none_
theorem ff_F {p : Nat → Bool} {i n : Nat} (h : p i = false) : ff p i (n + 1) = ff p (i + 1) n := by rw [ff, if_neg (by rw [h]; decide)]
theorem ff_T {p : Nat → Bool} {i n : Nat} (h : p i = true) : ff p i (n + 1) = i := by rw [ff, if_pos h]
theorem vp_lit (k : Nat) {N : Nat} (h : k < N) (hN : N < 2 ^ 31) : vp_in (OfNat.ofNat k) N := vp_in_nI h hN
end
section
/-! Small methods that only answer. -/
def hasB (r k : Int32) : Bool := decide (¬ ((r >>> (k &&& 31)) &&& 1) = 0)
def lowB (r : Int32) : Int32 := fI (-1) (fun k => hasB r (nI k)) 10
theorem sh_l : ∀ n, n < 32 → ((nI n &&& 31).toBitVec.smod 32).toNat = n := by decide +kernel
theorem hasB_nI {r k : Nat} (hr : r < 2 ^ 31) (hk : k < 31) : hasB (nI r) (nI k) = r.testBit k := by
  unfold hasB
  rw [pk_shrN hr (nI k &&& 31) k (sh_l k (by omega)), pk_andN (m := 1) (Nat.lt_of_le_of_lt (Nat.div_le_self _ _) (by omega)) 1 rfl, show (0 : Int32) = nI 0 from rfl]
  rw [decide_not, Nat.testBit_eq_decide_div_mod_eq]
  have h2 : r / 2 ^ k % 2 ^ 1 < 2 := Nat.mod_lt _ (by decide)
  rw [decide_eq_decide.mpr (nI_eq (a := r / 2 ^ k % 2 ^ 1) (b := 0) (by omega) (by decide))]
  rw [← decide_not]
  apply decide_eq_decide.mpr
  show ¬ r / 2 ^ k % 2 = 0 ↔ r / 2 ^ k % 2 = 1
  omega
theorem bit_nI {k : Nat} (hk : k < 31) : (1 : Int32) <<< (nI k &&& 31) = nI (2 ^ k) := by
  have h := pk_shlN (n := 1) (nI k &&& 31) k (sh_l k (by omega)) (by
    rw [Nat.one_mul]
    exact Nat.pow_lt_pow_of_lt (by decide) (by omega))
  rw [Nat.one_mul] at h
  exact h
theorem pair_nI (a b : Nat) : nI a * 10 + nI b = nI (a * 10 + b) := by
  rw [show (10 : Int32) = nI 10 from rfl, pk_mul, nI_add]
theorem pair_nI' (a b : Nat) : 10 * nI a + nI b = nI (10 * a + b) := by
  rw [show (10 : Int32) = nI 10 from rfl, pk_mul, nI_add]
/-- how many of the first k bits are set -/
def pop (n : Nat) : Nat → Nat
  | 0 => 0
  | k + 1 => pop n k + (if n.testBit k then 1 else 0)
def bcI (a : Int32) : Int32 :=
  let u := fun (x y : Int32) => (x.toUInt32 >>> (y.toUInt32 &&& Int32.toUInt32 31)).toInt32
  let a1 := a - (u a 1 &&& 1431655765)
  let a2 := (a1 &&& 858993459) + (u a1 2 &&& 858993459)
  let a3 := (a2 + u a2 4) &&& 252645135
  let a4 := a3 + u a3 8
  let a5 := a4 + u a4 16
  a5 &&& 63
theorem bcI_nI : ∀ n, n < 1024 → bcI (nI n) = nI (pop n 10) := by decide +kernel
def fil (g : Mem) (q n : Nat) (v : Int32) : Mem := fun a => if a = q then (fun j => if j < n then v else g q j) else g a
theorem fil_0 (g : Mem) (q : Nat) (v : Int32) : fil g q 0 v = g := by
  funext a
  unfold fil
  split
  · rename_i h; subst h; rfl
  · rfl
theorem fil_up (g : Mem) (q n : Nat) (v : Int32) : up (fil g q n v) q n v = fil g q (n + 1) v := by
  funext a j
  unfold up fil upd
  by_cases h : a = q
  · subst h
    by_cases h2 : j = n
    · subst h2; simp
    · by_cases h3 : j < n
      · simp [h2, h3, show j < n + 1 by omega]
      · simp [h2, h3, show ¬ j < n + 1 by omega]
  · simp [h]
theorem sg_X6_bit_0 {Γ : Gam} {P : Int32 → Mem → Prop}  (a0 : Int32) {g : Mem} (h : P (1 <<< (a0 &&& 31)) g) : AW Γ 1 iX6_bit P 0 [some (.inl a0)] [] g :=
  (aw_iconst 1 dX6_bit_0 (by decide) (aw_iload_n dX6_bit_1 rfl (aw_ishl dX6_bit_2 (aw_iret rfl (vp_nar_int _) dX6_bit_3 h))))
theorem ct_X6_bit {Γ : Gam} {a : Int32} {g : Mem} : Runs Γ 1 yX6_bit iX6_bit [.inl a] g (fun r g' => r = (1 <<< (a &&& 31)) ∧ g' = g) := Runs.intro (by decide) rfl (Nat.le_of_ble_eq_true rfl) (sg_X6_bit_0 a ⟨rfl, rfl⟩)
theorem sg_X6_pair_0 {Γ : Gam} {P : Int32 → Mem → Prop}  (a0 a1 : Int32) {g : Mem} (h : P ((a0 * 10) + a1) g) : AW Γ 1 iX6_pair P 0 [some (.inl a0), some (.inl a1)] [] g :=
  (aw_iload_n dX6_pair_0 rfl (aw_bipush 10 dX6_pair_1 (by decide) (aw_imul dX6_pair_3 (aw_iload_n dX6_pair_4 rfl (aw_iadd dX6_pair_5 (aw_iret rfl (vp_nar_int _) dX6_pair_6 h))))))
theorem ct_X6_pair {Γ : Gam} {a b : Int32} {g : Mem} : Runs Γ 1 yX6_pair iX6_pair [.inl a, .inl b] g (fun r g' => r = a * 10 + b ∧ g' = g) := Runs.intro (by decide) rfl (Nat.le_of_ble_eq_true rfl) (sg_X6_pair_0 a b ⟨rfl, rfl⟩)
theorem sg_X6_contains_0 {Γ : Gam} {P : Int32 → Mem → Prop}  (a0 a1 : Int32) {g : Mem} (h : ((((a0 >>> (a1 &&& 31)) &&& 1) = 0 → P 0 g) ∧ (¬ ((a0 >>> (a1 &&& 31)) &&& 1) = 0 → P 1 g))) : AW Γ 1 iX6_contains P 0 [some (.inl a0), some (.inl a1)] [] g :=
  (aw_iload_n dX6_contains_0 rfl (aw_iload_n dX6_contains_1 rfl (aw_ishr dX6_contains_2 (aw_iconst 1 dX6_contains_3 (by decide) (aw_iand dX6_contains_4 (aw_if_eq 12 dX6_contains_5 (by decide) (fun c1 => (aw_iconst 0 dX6_contains_12 (by decide) (aw_iret rfl (by decide) dX6_contains_13 (h.1 c1)))) (fun c1 => (aw_iconst 1 dX6_contains_8 (by decide) (aw_goto 13 dX6_contains_9 (by decide) (aw_iret rfl (by decide) dX6_contains_13 (h.2 c1)))))))))))
theorem ct_X6_contains {Γ : Gam} {a b : Int32} {g : Mem} : Runs Γ 1 yX6_contains iX6_contains [.inl a, .inl b] g (fun r g' => r = bi (hasB a b) ∧ g' = g) :=
  Runs.intro (by decide) rfl (Nat.le_of_ble_eq_true rfl) (sg_X6_contains_0 a b ⟨fun c => ⟨by simp [hasB, c, bi], rfl⟩, fun c => ⟨by simp [hasB, c, bi], rfl⟩⟩)
theorem sg_X6_lowest_0 {Γ : Gam} {P : Int32 → Mem → Prop}  (a0 : Int32) {g : Mem} (h : AW Γ 2 iX6_lowest P 2 [some (.inl a0), some (.inl 0)] [] g) : AW Γ 2 iX6_lowest P 0 [some (.inl a0)] [] g :=
  (aw_iconst 0 dX6_lowest_0 (by decide) (aw_istore_n [some (.inl a0), some (.inl 0)] dX6_lowest_1 (by decide) rfl (aw_mask [true, true] rfl h)))
theorem sg_X6_lowest_2 {Γ : Gam} {P : Int32 → Mem → Prop}  (a0 a1 : Int32) {g : Mem} (h : ((10 ≤ a1 → P (-1) g) ∧ (¬ (10 ≤ a1) → (((bi (hasB a0 a1)) = 0 → AW Γ 2 iX6_lowest P 2 [some (.inl a0), some (.inl (a1 + 1))] [] g) ∧ (¬ (bi (hasB a0 a1)) = 0 → P a1 g))))) : AW Γ 2 iX6_lowest P 2 [some (.inl a0), some (.inl a1)] [] g :=
  (aw_iload_n dX6_lowest_2 rfl (aw_bipush 10 dX6_lowest_3 (by decide) (aw_icmp_ge 24 dX6_lowest_5 (by decide) (fun c1 => (aw_iconst (-1) dX6_lowest_24 (by decide) (aw_iret rfl (vp_nar_int _) dX6_lowest_25 (h.1 c1)))) (fun c1 => (aw_iload_n dX6_lowest_8 rfl (aw_iload_n dX6_lowest_9 rfl (aw_callSi lkX6_129 ckX6_contains (d := 1) (by decide) [.inl a0, .inl a1] rfl rfl (Nat.le_of_ble_eq_true rfl) dX6_lowest_10 rfl (Runs.fn ct_X6_contains (aw_if_eq 18 dX6_lowest_13 (by decide) (fun c2 => (aw_iinc (a1 + 1) [some (.inl a0), some (.inl (a1 + 1))] dX6_lowest_18 rfl (by rfl) (by decide) rfl (aw_goto 2 dX6_lowest_21 (by decide) (aw_mask [true, true] rfl ((h.2 c1).1 c2))))) (fun c2 => (aw_iload_n dX6_lowest_16 rfl (aw_iret rfl (vp_nar_int _) dX6_lowest_17 ((h.2 c1).2 c2)))))))))))))
theorem lp_X6_lowest {Γ : Gam} {a : Int32} {g : Mem} : ∀ n i, i + n = 10 → AW Γ 2 iX6_lowest (fun r g' => r = (if ff (fun k => hasB a (nI k)) i n < 10 then nI (ff (fun k => hasB a (nI k)) i n) else -1) ∧ g' = g) 2 [some (.inl a), some (.inl (nI i))] [] g
  | 0, i, h => sg_X6_lowest_2 a (nI i) ⟨fun _ => ⟨by rw [ff, if_neg (by omega)], rfl⟩, fun c => absurd (by rw [show (10 : Int32) = nI 10 from rfl]; exact nI_le (by omega) (by omega)) c⟩
  | n + 1, i, h => sg_X6_lowest_2 a (nI i) ⟨fun c => absurd c (by rw [show (10 : Int32) = nI 10 from rfl]; exact nI_ge (by omega) (by omega)), fun _ => ⟨fun c => by
      rw [bi_eq0] at c
      have h1 := lp_X6_lowest (Γ := Γ) (a := a) (g := g) n (i + 1) (by omega)
      rw [nI_1, ff_F (p := fun k => hasB a (nI k)) c]
      exact h1, fun c => by
      rw [bi_ne0] at c
      refine ⟨?_, rfl⟩
      rw [ff_T (p := fun k => hasB a (nI k)) c, if_pos (by omega)]⟩⟩
theorem ct_X6_lowest {Γ : Gam} {a : Int32} {g : Mem} : Runs Γ 2 yX6_lowest iX6_lowest [.inl a] g (fun r g' => r = lowB a ∧ g' = g) := Runs.intro (by decide) rfl (Nat.le_of_ble_eq_true rfl) (sg_X6_lowest_0 a (lp_X6_lowest 10 0 rfl))
theorem sg_J6_bitCount_0f7a4_0 {Γ : Gam} {P : Int32 → Mem → Prop}  (a0 : Int32) {g : Mem} (h : P ((((((((a0 - (((a0.toUInt32 >>> ((1 : Int32).toUInt32 &&& Int32.toUInt32 31)).toInt32) &&& 1431655765)) &&& 858993459) + ((((a0 - (((a0.toUInt32 >>> ((1 : Int32).toUInt32 &&& Int32.toUInt32 31)).toInt32) &&& 1431655765)).toUInt32 >>> ((2 : Int32).toUInt32 &&& Int32.toUInt32 31)).toInt32) &&& 858993459)) + (((((a0 - (((a0.toUInt32 >>> ((1 : Int32).toUInt32 &&& Int32.toUInt32 31)).toInt32) &&& 1431655765)) &&& 858993459) + ((((a0 - (((a0.toUInt32 >>> ((1 : Int32).toUInt32 &&& Int32.toUInt32 31)).toInt32) &&& 1431655765)).toUInt32 >>> ((2 : Int32).toUInt32 &&& Int32.toUInt32 31)).toInt32) &&& 858993459)).toUInt32 >>> ((4 : Int32).toUInt32 &&& Int32.toUInt32 31)).toInt32)) &&& 252645135) + (((((((a0 - (((a0.toUInt32 >>> ((1 : Int32).toUInt32 &&& Int32.toUInt32 31)).toInt32) &&& 1431655765)) &&& 858993459) + ((((a0 - (((a0.toUInt32 >>> ((1 : Int32).toUInt32 &&& Int32.toUInt32 31)).toInt32) &&& 1431655765)).toUInt32 >>> ((2 : Int32).toUInt32 &&& Int32.toUInt32 31)).toInt32) &&& 858993459)) + (((((a0 - (((a0.toUInt32 >>> ((1 : Int32).toUInt32 &&& Int32.toUInt32 31)).toInt32) &&& 1431655765)) &&& 858993459) + ((((a0 - (((a0.toUInt32 >>> ((1 : Int32).toUInt32 &&& Int32.toUInt32 31)).toInt32) &&& 1431655765)).toUInt32 >>> ((2 : Int32).toUInt32 &&& Int32.toUInt32 31)).toInt32) &&& 858993459)).toUInt32 >>> ((4 : Int32).toUInt32 &&& Int32.toUInt32 31)).toInt32)) &&& 252645135).toUInt32 >>> ((8 : Int32).toUInt32 &&& Int32.toUInt32 31)).toInt32)) + ((((((((a0 - (((a0.toUInt32 >>> ((1 : Int32).toUInt32 &&& Int32.toUInt32 31)).toInt32) &&& 1431655765)) &&& 858993459) + ((((a0 - (((a0.toUInt32 >>> ((1 : Int32).toUInt32 &&& Int32.toUInt32 31)).toInt32) &&& 1431655765)).toUInt32 >>> ((2 : Int32).toUInt32 &&& Int32.toUInt32 31)).toInt32) &&& 858993459)) + (((((a0 - (((a0.toUInt32 >>> ((1 : Int32).toUInt32 &&& Int32.toUInt32 31)).toInt32) &&& 1431655765)) &&& 858993459) + ((((a0 - (((a0.toUInt32 >>> ((1 : Int32).toUInt32 &&& Int32.toUInt32 31)).toInt32) &&& 1431655765)).toUInt32 >>> ((2 : Int32).toUInt32 &&& Int32.toUInt32 31)).toInt32) &&& 858993459)).toUInt32 >>> ((4 : Int32).toUInt32 &&& Int32.toUInt32 31)).toInt32)) &&& 252645135) + (((((((a0 - (((a0.toUInt32 >>> ((1 : Int32).toUInt32 &&& Int32.toUInt32 31)).toInt32) &&& 1431655765)) &&& 858993459) + ((((a0 - (((a0.toUInt32 >>> ((1 : Int32).toUInt32 &&& Int32.toUInt32 31)).toInt32) &&& 1431655765)).toUInt32 >>> ((2 : Int32).toUInt32 &&& Int32.toUInt32 31)).toInt32) &&& 858993459)) + (((((a0 - (((a0.toUInt32 >>> ((1 : Int32).toUInt32 &&& Int32.toUInt32 31)).toInt32) &&& 1431655765)) &&& 858993459) + ((((a0 - (((a0.toUInt32 >>> ((1 : Int32).toUInt32 &&& Int32.toUInt32 31)).toInt32) &&& 1431655765)).toUInt32 >>> ((2 : Int32).toUInt32 &&& Int32.toUInt32 31)).toInt32) &&& 858993459)).toUInt32 >>> ((4 : Int32).toUInt32 &&& Int32.toUInt32 31)).toInt32)) &&& 252645135).toUInt32 >>> ((8 : Int32).toUInt32 &&& Int32.toUInt32 31)).toInt32)).toUInt32 >>> ((16 : Int32).toUInt32 &&& Int32.toUInt32 31)).toInt32)) &&& 63) g) : AW Γ 1 iJ6_bitCount_0f7a4 P 0 [some (.inl a0)] [] g :=
  (aw_iload_n dJ6_bitCount_0f7a4_0 rfl (aw_iload_n dJ6_bitCount_0f7a4_1 rfl (aw_iconst 1 dJ6_bitCount_0f7a4_2 (by decide) (aw_iushr dJ6_bitCount_0f7a4_3 (aw_ldcw 1431655765 kcJ6_265 dJ6_bitCount_0f7a4_4 (aw_iand dJ6_bitCount_0f7a4_7 (aw_isub dJ6_bitCount_0f7a4_8 (aw_istore_n [some (.inl (a0 - (((a0.toUInt32 >>> ((1 : Int32).toUInt32 &&& Int32.toUInt32 31)).toInt32) &&& 1431655765)))] dJ6_bitCount_0f7a4_9 (by decide) rfl (aw_iload_n dJ6_bitCount_0f7a4_10 rfl (aw_ldcw 858993459 kcJ6_266 dJ6_bitCount_0f7a4_11 (aw_iand dJ6_bitCount_0f7a4_14 (aw_iload_n dJ6_bitCount_0f7a4_15 rfl (aw_iconst 2 dJ6_bitCount_0f7a4_16 (by decide) (aw_iushr dJ6_bitCount_0f7a4_17 (aw_ldcw 858993459 kcJ6_266 dJ6_bitCount_0f7a4_18 (aw_iand dJ6_bitCount_0f7a4_21 (aw_iadd dJ6_bitCount_0f7a4_22 (aw_istore_n [some (.inl (((a0 - (((a0.toUInt32 >>> ((1 : Int32).toUInt32 &&& Int32.toUInt32 31)).toInt32) &&& 1431655765)) &&& 858993459) + ((((a0 - (((a0.toUInt32 >>> ((1 : Int32).toUInt32 &&& Int32.toUInt32 31)).toInt32) &&& 1431655765)).toUInt32 >>> ((2 : Int32).toUInt32 &&& Int32.toUInt32 31)).toInt32) &&& 858993459)))] dJ6_bitCount_0f7a4_23 (by decide) rfl (aw_iload_n dJ6_bitCount_0f7a4_24 rfl (aw_iload_n dJ6_bitCount_0f7a4_25 rfl (aw_iconst 4 dJ6_bitCount_0f7a4_26 (by decide) (aw_iushr dJ6_bitCount_0f7a4_27 (aw_iadd dJ6_bitCount_0f7a4_28 (aw_ldcw 252645135 kcJ6_267 dJ6_bitCount_0f7a4_29 (aw_iand dJ6_bitCount_0f7a4_32 (aw_istore_n [some (.inl (((((a0 - (((a0.toUInt32 >>> ((1 : Int32).toUInt32 &&& Int32.toUInt32 31)).toInt32) &&& 1431655765)) &&& 858993459) + ((((a0 - (((a0.toUInt32 >>> ((1 : Int32).toUInt32 &&& Int32.toUInt32 31)).toInt32) &&& 1431655765)).toUInt32 >>> ((2 : Int32).toUInt32 &&& Int32.toUInt32 31)).toInt32) &&& 858993459)) + (((((a0 - (((a0.toUInt32 >>> ((1 : Int32).toUInt32 &&& Int32.toUInt32 31)).toInt32) &&& 1431655765)) &&& 858993459) + ((((a0 - (((a0.toUInt32 >>> ((1 : Int32).toUInt32 &&& Int32.toUInt32 31)).toInt32) &&& 1431655765)).toUInt32 >>> ((2 : Int32).toUInt32 &&& Int32.toUInt32 31)).toInt32) &&& 858993459)).toUInt32 >>> ((4 : Int32).toUInt32 &&& Int32.toUInt32 31)).toInt32)) &&& 252645135))] dJ6_bitCount_0f7a4_33 (by decide) rfl (aw_iload_n dJ6_bitCount_0f7a4_34 rfl (aw_iload_n dJ6_bitCount_0f7a4_35 rfl (aw_bipush 8 dJ6_bitCount_0f7a4_36 (by decide) (aw_iushr dJ6_bitCount_0f7a4_38 (aw_iadd dJ6_bitCount_0f7a4_39 (aw_istore_n [some (.inl ((((((a0 - (((a0.toUInt32 >>> ((1 : Int32).toUInt32 &&& Int32.toUInt32 31)).toInt32) &&& 1431655765)) &&& 858993459) + ((((a0 - (((a0.toUInt32 >>> ((1 : Int32).toUInt32 &&& Int32.toUInt32 31)).toInt32) &&& 1431655765)).toUInt32 >>> ((2 : Int32).toUInt32 &&& Int32.toUInt32 31)).toInt32) &&& 858993459)) + (((((a0 - (((a0.toUInt32 >>> ((1 : Int32).toUInt32 &&& Int32.toUInt32 31)).toInt32) &&& 1431655765)) &&& 858993459) + ((((a0 - (((a0.toUInt32 >>> ((1 : Int32).toUInt32 &&& Int32.toUInt32 31)).toInt32) &&& 1431655765)).toUInt32 >>> ((2 : Int32).toUInt32 &&& Int32.toUInt32 31)).toInt32) &&& 858993459)).toUInt32 >>> ((4 : Int32).toUInt32 &&& Int32.toUInt32 31)).toInt32)) &&& 252645135) + (((((((a0 - (((a0.toUInt32 >>> ((1 : Int32).toUInt32 &&& Int32.toUInt32 31)).toInt32) &&& 1431655765)) &&& 858993459) + ((((a0 - (((a0.toUInt32 >>> ((1 : Int32).toUInt32 &&& Int32.toUInt32 31)).toInt32) &&& 1431655765)).toUInt32 >>> ((2 : Int32).toUInt32 &&& Int32.toUInt32 31)).toInt32) &&& 858993459)) + (((((a0 - (((a0.toUInt32 >>> ((1 : Int32).toUInt32 &&& Int32.toUInt32 31)).toInt32) &&& 1431655765)) &&& 858993459) + ((((a0 - (((a0.toUInt32 >>> ((1 : Int32).toUInt32 &&& Int32.toUInt32 31)).toInt32) &&& 1431655765)).toUInt32 >>> ((2 : Int32).toUInt32 &&& Int32.toUInt32 31)).toInt32) &&& 858993459)).toUInt32 >>> ((4 : Int32).toUInt32 &&& Int32.toUInt32 31)).toInt32)) &&& 252645135).toUInt32 >>> ((8 : Int32).toUInt32 &&& Int32.toUInt32 31)).toInt32)))] dJ6_bitCount_0f7a4_40 (by decide) rfl (aw_iload_n dJ6_bitCount_0f7a4_41 rfl (aw_iload_n dJ6_bitCount_0f7a4_42 rfl (aw_bipush 16 dJ6_bitCount_0f7a4_43 (by decide) (aw_iushr dJ6_bitCount_0f7a4_45 (aw_iadd dJ6_bitCount_0f7a4_46 (aw_istore_n [some (.inl (((((((a0 - (((a0.toUInt32 >>> ((1 : Int32).toUInt32 &&& Int32.toUInt32 31)).toInt32) &&& 1431655765)) &&& 858993459) + ((((a0 - (((a0.toUInt32 >>> ((1 : Int32).toUInt32 &&& Int32.toUInt32 31)).toInt32) &&& 1431655765)).toUInt32 >>> ((2 : Int32).toUInt32 &&& Int32.toUInt32 31)).toInt32) &&& 858993459)) + (((((a0 - (((a0.toUInt32 >>> ((1 : Int32).toUInt32 &&& Int32.toUInt32 31)).toInt32) &&& 1431655765)) &&& 858993459) + ((((a0 - (((a0.toUInt32 >>> ((1 : Int32).toUInt32 &&& Int32.toUInt32 31)).toInt32) &&& 1431655765)).toUInt32 >>> ((2 : Int32).toUInt32 &&& Int32.toUInt32 31)).toInt32) &&& 858993459)).toUInt32 >>> ((4 : Int32).toUInt32 &&& Int32.toUInt32 31)).toInt32)) &&& 252645135) + (((((((a0 - (((a0.toUInt32 >>> ((1 : Int32).toUInt32 &&& Int32.toUInt32 31)).toInt32) &&& 1431655765)) &&& 858993459) + ((((a0 - (((a0.toUInt32 >>> ((1 : Int32).toUInt32 &&& Int32.toUInt32 31)).toInt32) &&& 1431655765)).toUInt32 >>> ((2 : Int32).toUInt32 &&& Int32.toUInt32 31)).toInt32) &&& 858993459)) + (((((a0 - (((a0.toUInt32 >>> ((1 : Int32).toUInt32 &&& Int32.toUInt32 31)).toInt32) &&& 1431655765)) &&& 858993459) + ((((a0 - (((a0.toUInt32 >>> ((1 : Int32).toUInt32 &&& Int32.toUInt32 31)).toInt32) &&& 1431655765)).toUInt32 >>> ((2 : Int32).toUInt32 &&& Int32.toUInt32 31)).toInt32) &&& 858993459)).toUInt32 >>> ((4 : Int32).toUInt32 &&& Int32.toUInt32 31)).toInt32)) &&& 252645135).toUInt32 >>> ((8 : Int32).toUInt32 &&& Int32.toUInt32 31)).toInt32)) + ((((((((a0 - (((a0.toUInt32 >>> ((1 : Int32).toUInt32 &&& Int32.toUInt32 31)).toInt32) &&& 1431655765)) &&& 858993459) + ((((a0 - (((a0.toUInt32 >>> ((1 : Int32).toUInt32 &&& Int32.toUInt32 31)).toInt32) &&& 1431655765)).toUInt32 >>> ((2 : Int32).toUInt32 &&& Int32.toUInt32 31)).toInt32) &&& 858993459)) + (((((a0 - (((a0.toUInt32 >>> ((1 : Int32).toUInt32 &&& Int32.toUInt32 31)).toInt32) &&& 1431655765)) &&& 858993459) + ((((a0 - (((a0.toUInt32 >>> ((1 : Int32).toUInt32 &&& Int32.toUInt32 31)).toInt32) &&& 1431655765)).toUInt32 >>> ((2 : Int32).toUInt32 &&& Int32.toUInt32 31)).toInt32) &&& 858993459)).toUInt32 >>> ((4 : Int32).toUInt32 &&& Int32.toUInt32 31)).toInt32)) &&& 252645135) + (((((((a0 - (((a0.toUInt32 >>> ((1 : Int32).toUInt32 &&& Int32.toUInt32 31)).toInt32) &&& 1431655765)) &&& 858993459) + ((((a0 - (((a0.toUInt32 >>> ((1 : Int32).toUInt32 &&& Int32.toUInt32 31)).toInt32) &&& 1431655765)).toUInt32 >>> ((2 : Int32).toUInt32 &&& Int32.toUInt32 31)).toInt32) &&& 858993459)) + (((((a0 - (((a0.toUInt32 >>> ((1 : Int32).toUInt32 &&& Int32.toUInt32 31)).toInt32) &&& 1431655765)) &&& 858993459) + ((((a0 - (((a0.toUInt32 >>> ((1 : Int32).toUInt32 &&& Int32.toUInt32 31)).toInt32) &&& 1431655765)).toUInt32 >>> ((2 : Int32).toUInt32 &&& Int32.toUInt32 31)).toInt32) &&& 858993459)).toUInt32 >>> ((4 : Int32).toUInt32 &&& Int32.toUInt32 31)).toInt32)) &&& 252645135).toUInt32 >>> ((8 : Int32).toUInt32 &&& Int32.toUInt32 31)).toInt32)).toUInt32 >>> ((16 : Int32).toUInt32 &&& Int32.toUInt32 31)).toInt32)))] dJ6_bitCount_0f7a4_47 (by decide) rfl (aw_iload_n dJ6_bitCount_0f7a4_48 rfl (aw_bipush 63 dJ6_bitCount_0f7a4_49 (by decide) (aw_iand dJ6_bitCount_0f7a4_51 (aw_iret rfl (vp_nar_int _) dJ6_bitCount_0f7a4_52 h))))))))))))))))))))))))))))))))))))))))))
theorem ct_J6_bitCount {Γ : Gam} {a : Int32} {g : Mem} : Runs Γ 1 yJ6_bitCount_0f7a4 iJ6_bitCount_0f7a4 [.inl a] g (fun r g' => r = bcI a ∧ g' = g) := Runs.intro (by decide) rfl (Nat.le_of_ble_eq_true rfl) (sg_J6_bitCount_0f7a4_0 a ⟨rfl, rfl⟩)
theorem sg_J7_fill_53178_0 {Γ : Gam} {P : Int32 → Mem → Prop} (q : Nat) (n : Nat) (hq : aAt q = some (0, n)) (a1 : Int32) {g : Mem} (h : AW Γ 1 iJ7_fill_53178 P 5 [some (.inr q), some (.inl a1), some (.inl 0), some (.inl (Int32.ofNat n))] [] g) : AW Γ 1 iJ7_fill_53178 P 0 [some (.inr q), some (.inl a1)] [] g :=
  (aw_iconst 0 dJ7_fill_53178_0 (by decide) (aw_istore_n [some (.inr q), some (.inl a1), some (.inl 0)] dJ7_fill_53178_1 (by decide) rfl (aw_aload_n dJ7_fill_53178_2 rfl (aw_alen (t := 0) (Int32.ofNat n) hq dJ7_fill_53178_3 rfl (aw_istore_n [some (.inr q), some (.inl a1), some (.inl 0), some (.inl (Int32.ofNat n))] dJ7_fill_53178_4 (by decide) rfl (aw_mask [true, true, true, true] rfl h))))))
theorem sg_J7_fill_53178_5 {Γ : Gam} {P : Int32 → Mem → Prop} (q : Nat) (n : Nat) (hq : aAt q = some (0, n)) (a1 a2 a3 : Int32) {g : Mem} (h : ((a3 ≤ a2 → P 0 g) ∧ (¬ (a3 ≤ a2) → (vp_in a2 n ∧ AW Γ 1 iJ7_fill_53178 P 5 [some (.inr q), some (.inl a1), some (.inl (a2 + 1)), some (.inl a3)] [] (up g q a2.toNatClampNeg a1))))) : AW Γ 1 iJ7_fill_53178 P 5 [some (.inr q), some (.inl a1), some (.inl a2), some (.inl a3)] [] g :=
  (aw_iload_n dJ7_fill_53178_5 rfl (aw_iload_n dJ7_fill_53178_6 rfl (aw_icmp_ge 20 dJ7_fill_53178_7 (by decide) (fun c1 => (aw_vret rfl dJ7_fill_53178_20 (h.1 c1))) (fun c1 => (aw_aload_n dJ7_fill_53178_10 rfl (aw_iload_n dJ7_fill_53178_11 rfl (aw_iload_n dJ7_fill_53178_12 rfl (aw_iast hq dJ7_fill_53178_13 (h.2 c1).1 (aw_iinc (a2 + 1) [some (.inr q), some (.inl a1), some (.inl (a2 + 1)), some (.inl a3)] dJ7_fill_53178_14 rfl (by rfl) (by decide) rfl (aw_goto 5 dJ7_fill_53178_17 (by decide) (aw_mask [true, true, true, true] rfl (h.2 c1).2)))))))))))
theorem lp_J7_fill {Γ : Gam} {q n : Nat} (hq : aAt q = some (0, n)) (hn : n < 2 ^ 31) {v : Int32} {g : Mem} : ∀ k i, i + k = n → AW Γ 1 iJ7_fill_53178 (fun r g' => r = 0 ∧ g' = fil g q n v) 5 [some (.inr q), some (.inl v), some (.inl (nI i)), some (.inl (Int32.ofNat n))] [] (fil g q i v)
  | 0, i, h => sg_J7_fill_53178_5 q n hq v (nI i) (Int32.ofNat n) ⟨fun _ => ⟨rfl, by rw [show i = n by omega]⟩, fun c => absurd (nI_le (show n ≤ i by omega) (by omega)) c⟩
  | k + 1, i, h => sg_J7_fill_53178_5 q n hq v (nI i) (Int32.ofNat n) ⟨fun c => absurd c (nI_ge (show i < n by omega) (by omega)), fun _ => ⟨vp_nI (by omega) hn, by
      have h1 := lp_J7_fill (Γ := Γ) hq hn (v := v) (g := g) k (i + 1) (by omega)
      rw [nI_1, ix_nI (by omega), fil_up]
      exact h1⟩⟩
theorem ct_J7_fill {Γ : Gam} {q n : Nat} (hq : aAt q = some (0, n)) (hn : n < 2 ^ 31) {v : Int32} {g : Mem} : Runs Γ 1 yJ7_fill_53178 iJ7_fill_53178 [.inr q, .inl v] g (fun r g' => r = 0 ∧ g' = fil g q n v) :=
  Runs.intro (by decide) rfl (Nat.le_of_ble_eq_true rfl) (sg_J7_fill_53178_0 q n hq v (by
    have h := lp_J7_fill (Γ := Γ) hq hn (v := v) (g := g) n 0 (by omega)
    rw [fil_0] at h
    exact h))
/-! The class's State: what it answers. -/
def isK (s : St) (x k : Int32) : Bool := inR (s 0) x && decide (nI (s (1 + x.toNatClampNeg)) = k)
def isW (s : St) (x f : Int32) : Bool := isK s x 0 && decide (¬ (nI (s (11 + x.toNatClampNeg)) &&& f) = 0)
def isH (s : St) (x : Int32) : Bool := isK s x 0 || isK s x 3
def fitB (s : St) (k x : Int32) : Bool := isK s k 2 && isK s x 1 && decide (s (11 + k.toNatClampNeg) = s (11 + x.toNatClampNeg))
theorem isK_in {s : St} {x k : Int32} (h : isK s x k = true) : inR (s 0) x = true ∧ nI (s (1 + x.toNatClampNeg)) = k := by
  simpa [isK] using h
theorem sg_X4_has_0 {Γ : Gam} {P : Int32 → Mem → Prop} (b : Nat) (hb : isSt b) (a1 : Int32) {g : Mem} (h : ((a1 < 0 → P 0 g) ∧ (¬ (a1 < 0) → (((g b 0) ≤ a1 → P 0 g) ∧ (¬ ((g b 0) ≤ a1) → P 1 g))))) : AW Γ 1 iX4_has P 0 [some (.inr b), some (.inl a1)] [] g :=
  (aw_iload_n dX4_has_0 rfl (aw_if_lt 16 dX4_has_1 (by decide) (fun c1 => (aw_iconst 0 dX4_has_16 (by decide) (aw_iret rfl (by decide) dX4_has_17 (h.1 c1)))) (fun c1 => (aw_iload_n dX4_has_4 rfl (aw_aload_n dX4_has_5 rfl (aw_geti fkX4_9 (fs_0 hb) dX4_has_6 (aw_icmp_ge 16 dX4_has_9 (by decide) (fun c2 => (aw_iconst 0 dX4_has_16 (by decide) (aw_iret rfl (by decide) dX4_has_17 ((h.2 c1).1 c2)))) (fun c2 => (aw_iconst 1 dX4_has_12 (by decide) (aw_goto 17 dX4_has_13 (by decide) (aw_iret rfl (by decide) dX4_has_17 ((h.2 c1).2 c2))))))))))))
theorem ct_X4_has {Γ : Gam} {b : Nat} (hb : isSt b) {s : St} {g : Mem} {x : Int32} (h : CW b s g) : Runs Γ 1 yX4_has iX4_has [.inr b, .inl x] g (fun r g' => r = bi (inR (s 0) x) ∧ g' = g) := by
  have hn := h.2.n
  refine Runs.intro (by decide) rfl (Nat.le_of_ble_eq_true rfl) (sg_X4_has_0 b hb x ⟨fun c => ⟨by rw [inR_neg c]; rfl, rfl⟩, fun c => ?_⟩)
  rw [h.1.1]
  exact ⟨fun c2 => ⟨by rw [inR_big (by omega) c2]; rfl, rfl⟩, fun c2 => ⟨by rw [inR_yes (by omega) c c2]; rfl, rfl⟩⟩
theorem sg_X4_hasBoth_0 {Γ : Gam} {P : Int32 → Mem → Prop} (b : Nat) (hb : isSt b) (s : St) (a1 a2 : Int32) {g : Mem} (h : (CW b s g ∧ (((bi (inR (s 0) a1)) = 0 → P 0 g) ∧ (¬ (bi (inR (s 0) a1)) = 0 → (CW b s g ∧ (((bi (inR (s 0) a2)) = 0 → P 0 g) ∧ (¬ (bi (inR (s 0) a2)) = 0 → P 1 g))))))) : AW Γ 2 iX4_hasBoth P 0 [some (.inr b), some (.inl a1), some (.inl a2)] [] g :=
  (aw_aload_n dX4_hasBoth_0 rfl (aw_iload_n dX4_hasBoth_1 rfl (aw_callVi lkX4_61 ckX4_has (cs_ hb) rfl (d := 1) (by decide) [.inl a1] rfl rfl (Nat.le_of_ble_eq_true rfl) dX4_hasBoth_2 rfl (Runs.fn ((ct_X4_has hb) h.1) (aw_if_eq 20 dX4_hasBoth_5 (by decide) (fun c1 => (aw_iconst 0 dX4_hasBoth_20 (by decide) (aw_iret rfl (by decide) dX4_hasBoth_21 (h.2.1 c1)))) (fun c1 => (aw_aload_n dX4_hasBoth_8 rfl (aw_iload_n dX4_hasBoth_9 rfl (aw_callVi lkX4_61 ckX4_has (cs_ hb) rfl (d := 1) (by decide) [.inl a2] rfl rfl (Nat.le_of_ble_eq_true rfl) dX4_hasBoth_10 rfl (Runs.fn ((ct_X4_has hb) (h.2.2 c1).1) (aw_if_eq 20 dX4_hasBoth_13 (by decide) (fun c2 => (aw_iconst 0 dX4_hasBoth_20 (by decide) (aw_iret rfl (by decide) dX4_hasBoth_21 ((h.2.2 c1).2.1 c2)))) (fun c2 => (aw_iconst 1 dX4_hasBoth_16 (by decide) (aw_goto 21 dX4_hasBoth_17 (by decide) (aw_iret rfl (by decide) dX4_hasBoth_21 ((h.2.2 c1).2.2 c2))))))))))))))))
theorem ct_X4_hasBoth {Γ : Gam} {b : Nat} (hb : isSt b) {s : St} {g : Mem} {x y : Int32} (h : CW b s g) : Runs Γ 2 yX4_hasBoth iX4_hasBoth [.inr b, .inl x, .inl y] g (fun r g' => r = bi (inR (s 0) x && inR (s 0) y) ∧ g' = g) := by
  refine Runs.intro (by decide) rfl (Nat.le_of_ble_eq_true rfl) (sg_X4_hasBoth_0 b hb s x y ⟨h, fun c => ?_, fun c => ⟨h, fun c2 => ?_, fun c2 => ?_⟩⟩)
  · rw [bi_eq0] at c; simp [c, bi]
  · rw [bi_ne0] at c; rw [bi_eq0] at c2; simp [c, c2, bi]
  · rw [bi_ne0] at c c2; simp [c, c2, bi]
theorem sg_X4_isOfKind_0 {Γ : Gam} {P : Int32 → Mem → Prop} (b : Nat) (hb : isSt b) (s : St) (a1 a2 : Int32) {g : Mem} (h : (CW b s g ∧ (((bi (inR (s 0) a1)) = 0 → P 0 g) ∧ (¬ (bi (inR (s 0) a1)) = 0 → (vp_in a1 10 ∧ ((¬ (g (b + 1) a1.toNatClampNeg) = a2 → P 0 g) ∧ ((g (b + 1) a1.toNatClampNeg) = a2 → P 1 g))))))) : AW Γ 2 iX4_isOfKind P 0 [some (.inr b), some (.inl a1), some (.inl a2)] [] g :=
  (aw_aload_n dX4_isOfKind_0 rfl (aw_iload_n dX4_isOfKind_1 rfl (aw_callVi lkX4_61 ckX4_has (cs_ hb) rfl (d := 1) (by decide) [.inl a1] rfl rfl (Nat.le_of_ble_eq_true rfl) dX4_isOfKind_2 rfl (Runs.fn ((ct_X4_has hb) h.1) (aw_if_eq 22 dX4_isOfKind_5 (by decide) (fun c1 => (aw_iconst 0 dX4_isOfKind_22 (by decide) (aw_iret rfl (by decide) dX4_isOfKind_23 (h.2.1 c1)))) (fun c1 => (aw_aload_n dX4_isOfKind_8 rfl (aw_getr (b + 1) fkX4_15 (fs_1 hb) dX4_isOfKind_9 (aw_iload_n dX4_isOfKind_12 rfl (aw_iald (as_1 hb) dX4_isOfKind_13 (h.2.2 c1).1 (aw_iload_n dX4_isOfKind_14 rfl (aw_icmp_ne 22 dX4_isOfKind_15 (by decide) (fun c2 => (aw_iconst 0 dX4_isOfKind_22 (by decide) (aw_iret rfl (by decide) dX4_isOfKind_23 ((h.2.2 c1).2.1 c2)))) (fun c2 => (aw_iconst 1 dX4_isOfKind_18 (by decide) (aw_goto 23 dX4_isOfKind_19 (by decide) (aw_iret rfl (by decide) dX4_isOfKind_23 ((h.2.2 c1).2.2 c2)))))))))))))))))
theorem ct_X4_isOfKind {Γ : Gam} {b : Nat} (hb : isSt b) {s : St} {g : Mem} {x k : Int32} (h : CW b s g) : Runs Γ 2 yX4_isOfKind iX4_isOfKind [.inr b, .inl x, .inl k] g (fun r g' => r = bi (isK s x k) ∧ g' = g) := by
  refine Runs.intro (by decide) rfl (Nat.le_of_ble_eq_true rfl) (sg_X4_isOfKind_0 b hb s x k ⟨h, fun c => ?_, fun c => ?_⟩)
  · rw [bi_eq0] at c; simp [isK, c, bi]
  · rw [bi_ne0] at c
    refine ⟨vp_inR c h.2.n (by decide), ?_⟩
    rw [h.1.2.1 _ (inR_ex c).1]
    exact ⟨fun c2 => by simp [isK, c, c2, bi], fun c2 => by simp [isK, c, c2, bi]⟩
theorem sg_X4_isAgent_0 {Γ : Gam} {P : Int32 → Mem → Prop} (b : Nat) (hb : isSt b) (s : St) (a1 : Int32) {g : Mem} (h : (CW b s g ∧ (((bi (inR (s 0) a1)) = 0 → P 0 g) ∧ (¬ (bi (inR (s 0) a1)) = 0 → (vp_in a1 10 ∧ ((¬ (g (b + 1) a1.toNatClampNeg) = 0 → P 0 g) ∧ ((g (b + 1) a1.toNatClampNeg) = 0 → P 1 g))))))) : AW Γ 2 iX4_isAgent P 0 [some (.inr b), some (.inl a1)] [] g :=
  (aw_aload_n dX4_isAgent_0 rfl (aw_iload_n dX4_isAgent_1 rfl (aw_callVi lkX4_61 ckX4_has (cs_ hb) rfl (d := 1) (by decide) [.inl a1] rfl rfl (Nat.le_of_ble_eq_true rfl) dX4_isAgent_2 rfl (Runs.fn ((ct_X4_has hb) h.1) (aw_if_eq 21 dX4_isAgent_5 (by decide) (fun c1 => (aw_iconst 0 dX4_isAgent_21 (by decide) (aw_iret rfl (by decide) dX4_isAgent_22 (h.2.1 c1)))) (fun c1 => (aw_aload_n dX4_isAgent_8 rfl (aw_getr (b + 1) fkX4_15 (fs_1 hb) dX4_isAgent_9 (aw_iload_n dX4_isAgent_12 rfl (aw_iald (as_1 hb) dX4_isAgent_13 (h.2.2 c1).1 (aw_if_ne 21 dX4_isAgent_14 (by decide) (fun c2 => (aw_iconst 0 dX4_isAgent_21 (by decide) (aw_iret rfl (by decide) dX4_isAgent_22 ((h.2.2 c1).2.1 c2)))) (fun c2 => (aw_iconst 1 dX4_isAgent_17 (by decide) (aw_goto 22 dX4_isAgent_18 (by decide) (aw_iret rfl (by decide) dX4_isAgent_22 ((h.2.2 c1).2.2 c2))))))))))))))))
theorem ct_X4_isAgent {Γ : Gam} {b : Nat} (hb : isSt b) {s : St} {g : Mem} {x : Int32} (h : CW b s g) : Runs Γ 2 yX4_isAgent iX4_isAgent [.inr b, .inl x] g (fun r g' => r = bi (isK s x 0) ∧ g' = g) := by
  refine Runs.intro (by decide) rfl (Nat.le_of_ble_eq_true rfl) (sg_X4_isAgent_0 b hb s x ⟨h, fun c => ?_, fun c => ?_⟩)
  · rw [bi_eq0] at c; simp [isK, c, bi]
  · rw [bi_ne0] at c
    refine ⟨vp_inR c h.2.n (by decide), ?_⟩
    rw [h.1.2.1 _ (inR_ex c).1]
    exact ⟨fun c2 => by simp [isK, c, c2, bi], fun c2 => by simp [isK, c, c2, bi]⟩
theorem isK_kd {s : St} (hw : WF s) {x : Int32} {k : Nat} (hk : k < 2 ^ 31) (h : isK s x (nI k) = true) : x.toNatClampNeg < s 0 ∧ s (1 + x.toNatClampNeg) = k := by
  obtain ⟨h1, h2⟩ := isK_in h
  have h3 := (inR_ex h1).1
  have h4 := hw.kd h3
  exact ⟨h3, (nI_eq (by omega) hk).mp h2⟩
theorem sg_X4_isAgentWith_0 {Γ : Gam} {P : Int32 → Mem → Prop} (b : Nat) (hb : isSt b) (s : St) (a1 a2 : Int32) {g : Mem} (h : (CW b s g ∧ (((bi (isK s a1 0)) = 0 → P 0 g) ∧ (¬ (bi (isK s a1 0)) = 0 → (vp_in a1 10 ∧ ((((g (b + 2) a1.toNatClampNeg) &&& a2) = 0 → P 0 g) ∧ (¬ ((g (b + 2) a1.toNatClampNeg) &&& a2) = 0 → P 1 g))))))) : AW Γ 3 iX4_isAgentWith P 0 [some (.inr b), some (.inl a1), some (.inl a2)] [] g :=
  (aw_aload_n dX4_isAgentWith_0 rfl (aw_iload_n dX4_isAgentWith_1 rfl (aw_callVi lkX4_65 ckX4_isAgent (cs_ hb) rfl (d := 2) (by decide) [.inl a1] rfl rfl (Nat.le_of_ble_eq_true rfl) dX4_isAgentWith_2 rfl (Runs.fn ((ct_X4_isAgent hb) h.1) (aw_if_eq 23 dX4_isAgentWith_5 (by decide) (fun c1 => (aw_iconst 0 dX4_isAgentWith_23 (by decide) (aw_iret rfl (by decide) dX4_isAgentWith_24 (h.2.1 c1)))) (fun c1 => (aw_aload_n dX4_isAgentWith_8 rfl (aw_getr (b + 2) fkX4_19 (fs_2 hb) dX4_isAgentWith_9 (aw_iload_n dX4_isAgentWith_12 rfl (aw_iald (as_2 hb) dX4_isAgentWith_13 (h.2.2 c1).1 (aw_iload_n dX4_isAgentWith_14 rfl (aw_iand dX4_isAgentWith_15 (aw_if_eq 23 dX4_isAgentWith_16 (by decide) (fun c2 => (aw_iconst 0 dX4_isAgentWith_23 (by decide) (aw_iret rfl (by decide) dX4_isAgentWith_24 ((h.2.2 c1).2.1 c2)))) (fun c2 => (aw_iconst 1 dX4_isAgentWith_19 (by decide) (aw_goto 24 dX4_isAgentWith_20 (by decide) (aw_iret rfl (by decide) dX4_isAgentWith_24 ((h.2.2 c1).2.2 c2))))))))))))))))))
theorem ct_X4_isAgentWith {Γ : Gam} {b : Nat} (hb : isSt b) {s : St} {g : Mem} {x f : Int32} (h : CW b s g) : Runs Γ 3 yX4_isAgentWith iX4_isAgentWith [.inr b, .inl x, .inl f] g (fun r g' => r = bi (isW s x f) ∧ g' = g) := by
  refine Runs.intro (by decide) rfl (Nat.le_of_ble_eq_true rfl) (sg_X4_isAgentWith_0 b hb s x f ⟨h, fun c => ?_, fun c => ?_⟩)
  · rw [bi_eq0] at c; simp [isW, c, bi]
  · rw [bi_ne0] at c
    obtain ⟨h1, h2⟩ := isK_kd h.2 (k := 0) (by decide) c
    refine ⟨vp_inR (isK_in c).1 h.2.n (by decide), ?_⟩
    rw [h.1.2.2.1 _ h1 (by omega)]
    exact ⟨fun c2 => by simp [isW, c, c2, bi], fun c2 => by simp [isW, c, c2, bi]⟩
theorem sg_X4_canHold_0 {Γ : Gam} {P : Int32 → Mem → Prop} (b : Nat) (hb : isSt b) (s : St) (a1 : Int32) {g : Mem} (h : (CW b s g ∧ (((bi (inR (s 0) a1)) = 0 → P 0 g) ∧ (¬ (bi (inR (s 0) a1)) = 0 → (vp_in a1 10 ∧ (((g (b + 1) a1.toNatClampNeg) = 0 → P 1 g) ∧ (¬ (g (b + 1) a1.toNatClampNeg) = 0 → (vp_in a1 10 ∧ ((¬ (g (b + 1) a1.toNatClampNeg) = 3 → P 0 g) ∧ ((g (b + 1) a1.toNatClampNeg) = 3 → P 1 g)))))))))) : AW Γ 2 iX4_canHold P 0 [some (.inr b), some (.inl a1)] [] g :=
  (aw_aload_n dX4_canHold_0 rfl (aw_iload_n dX4_canHold_1 rfl (aw_callVi lkX4_61 ckX4_has (cs_ hb) rfl (d := 1) (by decide) [.inl a1] rfl rfl (Nat.le_of_ble_eq_true rfl) dX4_canHold_2 rfl (Runs.fn ((ct_X4_has hb) h.1) (aw_if_eq 31 dX4_canHold_5 (by decide) (fun c1 => (aw_iconst 0 dX4_canHold_31 (by decide) (aw_iret rfl (by decide) dX4_canHold_32 (h.2.1 c1)))) (fun c1 => (aw_aload_n dX4_canHold_8 rfl (aw_getr (b + 1) fkX4_15 (fs_1 hb) dX4_canHold_9 (aw_iload_n dX4_canHold_12 rfl (aw_iald (as_1 hb) dX4_canHold_13 (h.2.2 c1).1 (aw_if_eq 27 dX4_canHold_14 (by decide) (fun c2 => (aw_iconst 1 dX4_canHold_27 (by decide) (aw_goto 32 dX4_canHold_28 (by decide) (aw_iret rfl (by decide) dX4_canHold_32 ((h.2.2 c1).2.1 c2))))) (fun c2 => (aw_aload_n dX4_canHold_17 rfl (aw_getr (b + 1) fkX4_15 (fs_1 hb) dX4_canHold_18 (aw_iload_n dX4_canHold_21 rfl (aw_iald (as_1 hb) dX4_canHold_22 ((h.2.2 c1).2.2 c2).1 (aw_iconst 3 dX4_canHold_23 (by decide) (aw_icmp_ne 31 dX4_canHold_24 (by decide) (fun c3 => (aw_iconst 0 dX4_canHold_31 (by decide) (aw_iret rfl (by decide) dX4_canHold_32 (((h.2.2 c1).2.2 c2).2.1 c3)))) (fun c3 => (aw_iconst 1 dX4_canHold_27 (by decide) (aw_goto 32 dX4_canHold_28 (by decide) (aw_iret rfl (by decide) dX4_canHold_32 (((h.2.2 c1).2.2 c2).2.2 c3)))))))))))))))))))))))
theorem ct_X4_canHold {Γ : Gam} {b : Nat} (hb : isSt b) {s : St} {g : Mem} {x : Int32} (h : CW b s g) : Runs Γ 2 yX4_canHold iX4_canHold [.inr b, .inl x] g (fun r g' => r = bi (isH s x) ∧ g' = g) := by
  refine Runs.intro (by decide) rfl (Nat.le_of_ble_eq_true rfl) (sg_X4_canHold_0 b hb s x ⟨h, fun c => ?_, fun c => ?_⟩)
  · rw [bi_eq0] at c; simp [isH, isK, c, bi]
  · rw [bi_ne0] at c
    refine ⟨vp_inR c h.2.n (by decide), ?_⟩
    rw [h.1.2.1 _ (inR_ex c).1]
    refine ⟨fun c2 => by simp [isH, isK, c, c2, bi], fun c2 => ⟨vp_inR c h.2.n (by decide), fun c3 => by simp [isH, isK, c, c2, c3, bi], fun c3 => by simp [isH, isK, c, c2, c3, bi]⟩⟩
theorem sg_X4_fits_0 {Γ : Gam} {P : Int32 → Mem → Prop} (b : Nat) (hb : isSt b) (s : St) (a1 a2 : Int32) {g : Mem} (h : (CW b s g ∧ (((bi (isK s a1 2)) = 0 → P 0 g) ∧ (¬ (bi (isK s a1 2)) = 0 → (CW b s g ∧ (((bi (isK s a2 1)) = 0 → P 0 g) ∧ (¬ (bi (isK s a2 1)) = 0 → (vp_in a1 10 ∧ (vp_in a2 10 ∧ ((¬ (g (b + 2) a1.toNatClampNeg) = (g (b + 2) a2.toNatClampNeg) → P 0 g) ∧ ((g (b + 2) a1.toNatClampNeg) = (g (b + 2) a2.toNatClampNeg) → P 1 g))))))))))) : AW Γ 3 iX4_fits P 0 [some (.inr b), some (.inl a1), some (.inl a2)] [] g :=
  (aw_aload_n dX4_fits_0 rfl (aw_iload_n dX4_fits_1 rfl (aw_iconst 2 dX4_fits_2 (by decide) (aw_callVi lkX4_68 ckX4_isOfKind (cs_ hb) rfl (d := 2) (by decide) [.inl a1, .inl 2] rfl rfl (Nat.le_of_ble_eq_true rfl) dX4_fits_3 rfl (Runs.fn ((ct_X4_isOfKind hb) h.1) (aw_if_eq 37 dX4_fits_6 (by decide) (fun c1 => (aw_iconst 0 dX4_fits_37 (by decide) (aw_iret rfl (by decide) dX4_fits_38 (h.2.1 c1)))) (fun c1 => (aw_aload_n dX4_fits_9 rfl (aw_iload_n dX4_fits_10 rfl (aw_iconst 1 dX4_fits_11 (by decide) (aw_callVi lkX4_68 ckX4_isOfKind (cs_ hb) rfl (d := 2) (by decide) [.inl a2, .inl 1] rfl rfl (Nat.le_of_ble_eq_true rfl) dX4_fits_12 rfl (Runs.fn ((ct_X4_isOfKind hb) (h.2.2 c1).1) (aw_if_eq 37 dX4_fits_15 (by decide) (fun c2 => (aw_iconst 0 dX4_fits_37 (by decide) (aw_iret rfl (by decide) dX4_fits_38 ((h.2.2 c1).2.1 c2)))) (fun c2 => (aw_aload_n dX4_fits_18 rfl (aw_getr (b + 2) fkX4_19 (fs_2 hb) dX4_fits_19 (aw_iload_n dX4_fits_22 rfl (aw_iald (as_2 hb) dX4_fits_23 ((h.2.2 c1).2.2 c2).1 (aw_aload_n dX4_fits_24 rfl (aw_getr (b + 2) fkX4_19 (fs_2 hb) dX4_fits_25 (aw_iload_n dX4_fits_28 rfl (aw_iald (as_2 hb) dX4_fits_29 ((h.2.2 c1).2.2 c2).2.1 (aw_icmp_ne 37 dX4_fits_30 (by decide) (fun c3 => (aw_iconst 0 dX4_fits_37 (by decide) (aw_iret rfl (by decide) dX4_fits_38 (((h.2.2 c1).2.2 c2).2.2.1 c3)))) (fun c3 => (aw_iconst 1 dX4_fits_33 (by decide) (aw_goto 38 dX4_fits_34 (by decide) (aw_iret rfl (by decide) dX4_fits_38 (((h.2.2 c1).2.2 c2).2.2.2 c3))))))))))))))))))))))))))))
theorem ct_X4_fits {Γ : Gam} {b : Nat} (hb : isSt b) {s : St} {g : Mem} {x y : Int32} (h : CW b s g) : Runs Γ 3 yX4_fits iX4_fits [.inr b, .inl x, .inl y] g (fun r g' => r = bi (fitB s x y) ∧ g' = g) := by
  refine Runs.intro (by decide) rfl (Nat.le_of_ble_eq_true rfl) (sg_X4_fits_0 b hb s x y ⟨h, fun c => ?_, fun c => ⟨h, fun c2 => ?_, fun c2 => ?_⟩⟩)
  · rw [bi_eq0] at c; simp [fitB, c, bi]
  · rw [bi_eq0] at c2; simp [fitB, c2, bi]
  · rw [bi_ne0] at c c2
    obtain ⟨h1, h2⟩ := isK_kd h.2 (k := 2) (by decide) c
    obtain ⟨h3, h4⟩ := isK_kd h.2 (k := 1) (by decide) c2
    have h5 := h.2.fi h1
    have h6 := h.2.fi h3
    refine ⟨vp_inR (isK_in c).1 h.2.n (by decide), vp_inR (isK_in c2).1 h.2.n (by decide), ?_⟩
    rw [h.1.2.2.1 _ h1 (by omega), h.1.2.2.1 _ h3 (by omega), nI_eq (by omega) (by omega)]
    exact ⟨fun c3 => by simp [fitB, c, c2, c3, bi], fun c3 => by simp [fitB, c, c2, c3, bi]⟩
end
section
/-! The reference's small methods, and what is left of the class's. -/
theorem n1 (j : Nat) : 1 + nI j = nI (1 + j) := nI_add 1 j
theorem n11 (j : Nat) : 11 + nI j = nI (11 + j) := nI_add 11 j
theorem n21 (j : Nat) : 21 + nI j = nI (21 + j) := nI_add 21 j
theorem n31 (j : Nat) : 31 + nI j = nI (31 + j) := nI_add 31 j
theorem n71 (j : Nat) : 71 + nI j = nI (71 + j) := nI_add 71 j
theorem n42 (j : Nat) : 42 + 2 * nI j = nI (42 + 2 * j) := by rw [show (2 : Int32) = nI 2 from rfl, pk_mul]; exact nI_add 42 _
theorem n63 (j : Nat) : 63 + 2 * nI j = nI (63 + 2 * j) := by rw [show (2 : Int32) = nI 2 from rfl, pk_mul]; exact nI_add 63 _
theorem MW.at {q : Nat} {s : St} {g : Mem} (h : MW q s g) {j : Nat} (hj : j < 81) : g q j = nI (s j) := h.1 j hj
theorem fI_none {x : Int32} {p : Nat → Bool} {N : Nat} (h : ff p 0 N = N) : fI x p N = x := by rw [fI, h, if_neg (Nat.lt_irrefl _)]
theorem fI_at {x : Int32} {p : Nat → Bool} {N i : Nat} (h : ff p 0 N = i) (hi : i < N) : fI x p N = nI i := by rw [fI, h, if_pos hi]
def inI (v a b : Int32) : Bool := decide (a ≤ v) && decide (v ≤ b)
theorem not_lt32 {a b : Int32} : ¬ a < b ↔ b ≤ a := by rw [lt_iff32, le_iff32]; omega
theorem not_le32 {a b : Int32} : ¬ a ≤ b ↔ b < a := by rw [lt_iff32, le_iff32]; omega
theorem sg_X7_in_0 {Γ : Gam} {P : Int32 → Mem → Prop}  (a0 a1 a2 : Int32) {g : Mem} (h : ((a0 < a1 → P 0 g) ∧ (¬ (a0 < a1) → ((a2 < a0 → P 0 g) ∧ (¬ (a2 < a0) → P 1 g))))) : AW Γ 1 iX7_in P 0 [some (.inl a0), some (.inl a1), some (.inl a2)] [] g :=
  (aw_iload_n dX7_in_0 rfl (aw_iload_n dX7_in_1 rfl (aw_icmp_lt 14 dX7_in_2 (by decide) (fun c1 => (aw_iconst 0 dX7_in_14 (by decide) (aw_iret rfl (by decide) dX7_in_15 (h.1 c1)))) (fun c1 => (aw_iload_n dX7_in_5 rfl (aw_iload_n dX7_in_6 rfl (aw_icmp_gt 14 dX7_in_7 (by decide) (fun c2 => (aw_iconst 0 dX7_in_14 (by decide) (aw_iret rfl (by decide) dX7_in_15 ((h.2 c1).1 c2)))) (fun c2 => (aw_iconst 1 dX7_in_10 (by decide) (aw_goto 15 dX7_in_11 (by decide) (aw_iret rfl (by decide) dX7_in_15 ((h.2 c1).2 c2))))))))))))
theorem ct_X7_in {Γ : Gam} {v a b : Int32} {g : Mem} : Runs Γ 1 yX7_in iX7_in [.inl v, .inl a, .inl b] g (fun r g' => r = bi (inI v a b) ∧ g' = g) := by
  refine Runs.intro (by decide) rfl (Nat.le_of_ble_eq_true rfl) (sg_X7_in_0 v a b ⟨fun c => ?_, fun c => ⟨fun c2 => ?_, fun c2 => ?_⟩⟩)
  · rw [← not_le32] at c; simp [inI, c, bi]
  · rw [← not_le32] at c2; simp [inI, c2, bi]
  · rw [not_lt32] at c c2; simp [inI, c, c2, bi]
theorem inI_n {n : Nat} (hn : n ≤ 10) (x : Int32) : inI x 0 (nI n - 1) = inR n x := by
  have e : (nI n - 1).toInt = (n : Int) - 1 := pk_sub_toInt (a := n) (b := 1) (by omega) (by decide)
  rw [Bool.eq_iff_iff]
  simp only [inI, Bool.and_eq_true, decide_eq_true_eq, inR]
  rw [le_iff32, le_iff32, e, show (0 : Int32).toInt = 0 from rfl]
  constructor
  · intro ⟨h1, h2⟩
    have := ix_toInt x h1
    omega
  · intro ⟨h1, h2⟩
    have := ix_toInt x h1
    omega
theorem and1 (x : Int32) : x &&& 1 = 0 ∨ x &&& 1 = 1 := by
  obtain ⟨j, hj, e⟩ := pk_andE x (m := 1) 1 rfl
  rw [e]
  rcases (show j = 0 ∨ j = 1 by omega) with rfl | rfl
  · exact Or.inl rfl
  · exact Or.inr rfl
theorem sg_X7_has_0 {Γ : Gam} {P : Int32 → Mem → Prop}  (a0 a1 : Int32) {g : Mem} (h : ((¬ ((a0 >>> (a1 &&& 31)) &&& 1) = 1 → P 0 g) ∧ (((a0 >>> (a1 &&& 31)) &&& 1) = 1 → P 1 g))) : AW Γ 1 iX7_has P 0 [some (.inl a0), some (.inl a1)] [] g :=
  (aw_iload_n dX7_has_0 rfl (aw_iload_n dX7_has_1 rfl (aw_ishr dX7_has_2 (aw_iconst 1 dX7_has_3 (by decide) (aw_iand dX7_has_4 (aw_iconst 1 dX7_has_5 (by decide) (aw_icmp_ne 13 dX7_has_6 (by decide) (fun c1 => (aw_iconst 0 dX7_has_13 (by decide) (aw_iret rfl (by decide) dX7_has_14 (h.1 c1)))) (fun c1 => (aw_iconst 1 dX7_has_9 (by decide) (aw_goto 14 dX7_has_10 (by decide) (aw_iret rfl (by decide) dX7_has_14 (h.2 c1))))))))))))
theorem ct_X7_has {Γ : Gam} {a b : Int32} {g : Mem} : Runs Γ 1 yX7_has iX7_has [.inl a, .inl b] g (fun r g' => r = bi (hasB a b) ∧ g' = g) := by
  refine Runs.intro (by decide) rfl (Nat.le_of_ble_eq_true rfl) (sg_X7_has_0 a b ⟨fun c => ?_, fun c => ?_⟩)
  · have h := (and1 (a >>> (b &&& 31))).resolve_right c
    simp [hasB, h, bi]
  · simp [hasB, c, bi]
theorem sg_X7_isObject_0 {Γ : Gam} {P : Int32 → Mem → Prop}  (a1 : Int32) {g : Mem} (h : (bz (bi (inI a1 0 ((g 27 0) - 1))) ∧ P (bi (inI a1 0 ((g 27 0) - 1))) g)) : AW Γ 2 iX7_isObject P 0 [some (.inr 26), some (.inl a1)] [] g :=
  (aw_iload_n dX7_isObject_0 rfl (aw_iconst 0 dX7_isObject_1 (by decide) (aw_aload_n dX7_isObject_2 rfl (aw_getr 27 fkX7_7 fa_26_1 dX7_isObject_3 (aw_iconst 0 dX7_isObject_6 (by decide) (aw_iald aa_27 dX7_isObject_7 (vp_lit 0 (by decide) (by decide)) (aw_iconst 1 dX7_isObject_8 (by decide) (aw_isub dX7_isObject_9 (aw_callSi lkX7_56 ckX7_in (d := 1) (by decide) [.inl a1, .inl 0, .inl ((g 27 0) - 1)] rfl rfl (Nat.le_of_ble_eq_true rfl) dX7_isObject_10 rfl (Runs.fn ct_X7_in (aw_iret rfl h.1 dX7_isObject_13 h.2)))))))))))
theorem ct_X7_isObject {Γ : Gam} {s : St} {g : Mem} {x : Int32} (h : MW 27 s g) : Runs Γ 2 yX7_isObject iX7_isObject [.inr 26, .inl x] g (fun r g' => r = bi (inR (s 0) x) ∧ g' = g) := by
  refine Runs.intro (by decide) rfl (Nat.le_of_ble_eq_true rfl) (sg_X7_isObject_0 x ⟨bz_bi _, ?_, rfl⟩)
  rw [h.at (by decide), inI_n h.2.n]
theorem sg_X7_areObjects_0 {Γ : Gam} {P : Int32 → Mem → Prop}  (s : St) (a1 a2 : Int32) {g : Mem} (h : (MW 27 s g ∧ (((bi (inR (s 0) a1)) = 0 → P 0 g) ∧ (¬ (bi (inR (s 0) a1)) = 0 → (MW 27 s g ∧ (((bi (inR (s 0) a2)) = 0 → P 0 g) ∧ (¬ (bi (inR (s 0) a2)) = 0 → P 1 g))))))) : AW Γ 3 iX7_areObjects P 0 [some (.inr 26), some (.inl a1), some (.inl a2)] [] g :=
  (aw_aload_n dX7_areObjects_0 rfl (aw_iload_n dX7_areObjects_1 rfl (aw_callVi lkX7_108 ckX7_isObject ca_26 rfl (d := 2) (by decide) [.inl a1] rfl rfl (Nat.le_of_ble_eq_true rfl) dX7_areObjects_2 rfl (Runs.fn (ct_X7_isObject h.1) (aw_if_eq 20 dX7_areObjects_5 (by decide) (fun c1 => (aw_iconst 0 dX7_areObjects_20 (by decide) (aw_iret rfl (by decide) dX7_areObjects_21 (h.2.1 c1)))) (fun c1 => (aw_aload_n dX7_areObjects_8 rfl (aw_iload_n dX7_areObjects_9 rfl (aw_callVi lkX7_108 ckX7_isObject ca_26 rfl (d := 2) (by decide) [.inl a2] rfl rfl (Nat.le_of_ble_eq_true rfl) dX7_areObjects_10 rfl (Runs.fn (ct_X7_isObject (h.2.2 c1).1) (aw_if_eq 20 dX7_areObjects_13 (by decide) (fun c2 => (aw_iconst 0 dX7_areObjects_20 (by decide) (aw_iret rfl (by decide) dX7_areObjects_21 ((h.2.2 c1).2.1 c2)))) (fun c2 => (aw_iconst 1 dX7_areObjects_16 (by decide) (aw_goto 21 dX7_areObjects_17 (by decide) (aw_iret rfl (by decide) dX7_areObjects_21 ((h.2.2 c1).2.2 c2))))))))))))))))
theorem ct_X7_areObjects {Γ : Gam} {s : St} {g : Mem} {x y : Int32} (h : MW 27 s g) : Runs Γ 3 yX7_areObjects iX7_areObjects [.inr 26, .inl x, .inl y] g (fun r g' => r = bi (inR (s 0) x && inR (s 0) y) ∧ g' = g) := by
  refine Runs.intro (by decide) rfl (Nat.le_of_ble_eq_true rfl) (sg_X7_areObjects_0 s x y ⟨h, fun c => ?_, fun c => ⟨h, fun c2 => ?_, fun c2 => ?_⟩⟩)
  · rw [bi_eq0] at c; simp [c, bi]
  · rw [bi_ne0] at c; rw [bi_eq0] at c2; simp [c, c2, bi]
  · rw [bi_ne0] at c c2; simp [c, c2, bi]
/-- a place of the row behind an object's number -/
theorem MW.ix {q : Nat} {s : St} {g : Mem} (h : MW q s g) {x : Int32} (hx : inR (s 0) x = true) (k : Nat) (hk : k ≤ 71) : vp_in (nI k + x) 81 ∧ g q (nI k + x).toNatClampNeg = nI (s (k + x.toNatClampNeg)) := by
  obtain ⟨h1, h2⟩ := inR_ex hx
  have hn := h.2.n
  have e : nI k + x = nI (k + x.toNatClampNeg) := by
    conv => lhs; rw [h2]
    exact nI_add _ _
  rw [e, ix_nI (by omega), h.at (by omega)]
  exact ⟨vp_nI (by omega) (by omega), rfl⟩
theorem sg_X7_isOf_0 {Γ : Gam} {P : Int32 → Mem → Prop}  (s : St) (a1 a2 : Int32) {g : Mem} (h : (MW 27 s g ∧ (((bi (inR (s 0) a1)) = 0 → P 0 g) ∧ (¬ (bi (inR (s 0) a1)) = 0 → (vp_in (1 + a1) 81 ∧ ((¬ (g 27 (1 + a1).toNatClampNeg) = a2 → P 0 g) ∧ ((g 27 (1 + a1).toNatClampNeg) = a2 → P 1 g))))))) : AW Γ 3 iX7_isOf P 0 [some (.inr 26), some (.inl a1), some (.inl a2)] [] g :=
  (aw_aload_n dX7_isOf_0 rfl (aw_iload_n dX7_isOf_1 rfl (aw_callVi lkX7_108 ckX7_isObject ca_26 rfl (d := 2) (by decide) [.inl a1] rfl rfl (Nat.le_of_ble_eq_true rfl) dX7_isOf_2 rfl (Runs.fn (ct_X7_isObject h.1) (aw_if_eq 24 dX7_isOf_5 (by decide) (fun c1 => (aw_iconst 0 dX7_isOf_24 (by decide) (aw_iret rfl (by decide) dX7_isOf_25 (h.2.1 c1)))) (fun c1 => (aw_aload_n dX7_isOf_8 rfl (aw_getr 27 fkX7_7 fa_26_1 dX7_isOf_9 (aw_iconst 1 dX7_isOf_12 (by decide) (aw_iload_n dX7_isOf_13 rfl (aw_iadd dX7_isOf_14 (aw_iald aa_27 dX7_isOf_15 (h.2.2 c1).1 (aw_iload_n dX7_isOf_16 rfl (aw_icmp_ne 24 dX7_isOf_17 (by decide) (fun c2 => (aw_iconst 0 dX7_isOf_24 (by decide) (aw_iret rfl (by decide) dX7_isOf_25 ((h.2.2 c1).2.1 c2)))) (fun c2 => (aw_iconst 1 dX7_isOf_20 (by decide) (aw_goto 25 dX7_isOf_21 (by decide) (aw_iret rfl (by decide) dX7_isOf_25 ((h.2.2 c1).2.2 c2)))))))))))))))))))
theorem ct_X7_isOf {Γ : Gam} {s : St} {g : Mem} {x k : Int32} (h : MW 27 s g) : Runs Γ 3 yX7_isOf iX7_isOf [.inr 26, .inl x, .inl k] g (fun r g' => r = bi (isK s x k) ∧ g' = g) := by
  refine Runs.intro (by decide) rfl (Nat.le_of_ble_eq_true rfl) (sg_X7_isOf_0 s x k ⟨h, fun c => ?_, fun c => ?_⟩)
  · rw [bi_eq0] at c; simp [isK, c, bi]
  · rw [bi_ne0] at c
    obtain ⟨h1, h2⟩ := h.ix c 1 (by decide)
    refine ⟨h1, ?_⟩
    rw [show (1 : Int32) + x = nI 1 + x from rfl, h2]
    exact ⟨fun c2 => by simp [isK, c, c2, bi], fun c2 => by simp [isK, c, c2, bi]⟩
theorem sg_X7_does_0 {Γ : Gam} {P : Int32 → Mem → Prop}  (s : St) (a1 a2 : Int32) {g : Mem} (h : (MW 27 s g ∧ (((bi (isK s a1 0)) = 0 → P 0 g) ∧ (¬ (bi (isK s a1 0)) = 0 → (vp_in (11 + a1) 81 ∧ ((((g 27 (11 + a1).toNatClampNeg) &&& a2) = 0 → P 0 g) ∧ (¬ ((g 27 (11 + a1).toNatClampNeg) &&& a2) = 0 → P 1 g))))))) : AW Γ 4 iX7_does P 0 [some (.inr 26), some (.inl a1), some (.inl a2)] [] g :=
  (aw_aload_n dX7_does_0 rfl (aw_iload_n dX7_does_1 rfl (aw_iconst 0 dX7_does_2 (by decide) (aw_callVi lkX7_112 ckX7_isOf ca_26 rfl (d := 3) (by decide) [.inl a1, .inl 0] rfl rfl (Nat.le_of_ble_eq_true rfl) dX7_does_3 rfl (Runs.fn (ct_X7_isOf h.1) (aw_if_eq 27 dX7_does_6 (by decide) (fun c1 => (aw_iconst 0 dX7_does_27 (by decide) (aw_iret rfl (by decide) dX7_does_28 (h.2.1 c1)))) (fun c1 => (aw_aload_n dX7_does_9 rfl (aw_getr 27 fkX7_7 fa_26_1 dX7_does_10 (aw_bipush 11 dX7_does_13 (by decide) (aw_iload_n dX7_does_15 rfl (aw_iadd dX7_does_16 (aw_iald aa_27 dX7_does_17 (h.2.2 c1).1 (aw_iload_n dX7_does_18 rfl (aw_iand dX7_does_19 (aw_if_eq 27 dX7_does_20 (by decide) (fun c2 => (aw_iconst 0 dX7_does_27 (by decide) (aw_iret rfl (by decide) dX7_does_28 ((h.2.2 c1).2.1 c2)))) (fun c2 => (aw_iconst 1 dX7_does_23 (by decide) (aw_goto 28 dX7_does_24 (by decide) (aw_iret rfl (by decide) dX7_does_28 ((h.2.2 c1).2.2 c2)))))))))))))))))))))
theorem ct_X7_does {Γ : Gam} {s : St} {g : Mem} {x f : Int32} (h : MW 27 s g) : Runs Γ 4 yX7_does iX7_does [.inr 26, .inl x, .inl f] g (fun r g' => r = bi (isW s x f) ∧ g' = g) := by
  refine Runs.intro (by decide) rfl (Nat.le_of_ble_eq_true rfl) (sg_X7_does_0 s x f ⟨h, fun c => ?_, fun c => ?_⟩)
  · rw [bi_eq0] at c; simp [isW, c, bi]
  · rw [bi_ne0] at c
    obtain ⟨h1, h2⟩ := h.ix (isK_in c).1 11 (by decide)
    refine ⟨h1, ?_⟩
    rw [show (11 : Int32) + x = nI 11 + x from rfl, h2]
    exact ⟨fun c2 => by simp [isW, c, c2, bi], fun c2 => by simp [isW, c, c2, bi]⟩
theorem sg_X7_isHolder_0 {Γ : Gam} {P : Int32 → Mem → Prop} (q : Nat) (hq : aAt q = some (0, 81)) (a1 : Int32) {g : Mem} (h : (((bi (inI a1 0 ((g q 0) - 1))) = 0 → P 0 g) ∧ (¬ (bi (inI a1 0 ((g q 0) - 1))) = 0 → (vp_in (1 + a1) 81 ∧ (((g q (1 + a1).toNatClampNeg) = 0 → P 1 g) ∧ (¬ (g q (1 + a1).toNatClampNeg) = 0 → (vp_in (1 + a1) 81 ∧ ((¬ (g q (1 + a1).toNatClampNeg) = 3 → P 0 g) ∧ ((g q (1 + a1).toNatClampNeg) = 3 → P 1 g))))))))) : AW Γ 2 iX7_isHolder P 0 [some (.inr q), some (.inl a1)] [] g :=
  (aw_iload_n dX7_isHolder_0 rfl (aw_iconst 0 dX7_isHolder_1 (by decide) (aw_aload_n dX7_isHolder_2 rfl (aw_iconst 0 dX7_isHolder_3 (by decide) (aw_iald hq dX7_isHolder_4 (vp_lit 0 (by decide) (by decide)) (aw_iconst 1 dX7_isHolder_5 (by decide) (aw_isub dX7_isHolder_6 (aw_callSi lkX7_56 ckX7_in (d := 1) (by decide) [.inl a1, .inl 0, .inl ((g q 0) - 1)] rfl rfl (Nat.le_of_ble_eq_true rfl) dX7_isHolder_7 rfl (Runs.fn ct_X7_in (aw_if_eq 34 dX7_isHolder_10 (by decide) (fun c1 => (aw_iconst 0 dX7_isHolder_34 (by decide) (aw_iret rfl (by decide) dX7_isHolder_35 (h.1 c1)))) (fun c1 => (aw_aload_n dX7_isHolder_13 rfl (aw_iconst 1 dX7_isHolder_14 (by decide) (aw_iload_n dX7_isHolder_15 rfl (aw_iadd dX7_isHolder_16 (aw_iald hq dX7_isHolder_17 (h.2 c1).1 (aw_if_eq 30 dX7_isHolder_18 (by decide) (fun c2 => (aw_iconst 1 dX7_isHolder_30 (by decide) (aw_goto 35 dX7_isHolder_31 (by decide) (aw_iret rfl (by decide) dX7_isHolder_35 ((h.2 c1).2.1 c2))))) (fun c2 => (aw_aload_n dX7_isHolder_21 rfl (aw_iconst 1 dX7_isHolder_22 (by decide) (aw_iload_n dX7_isHolder_23 rfl (aw_iadd dX7_isHolder_24 (aw_iald hq dX7_isHolder_25 ((h.2 c1).2.2 c2).1 (aw_iconst 3 dX7_isHolder_26 (by decide) (aw_icmp_ne 34 dX7_isHolder_27 (by decide) (fun c3 => (aw_iconst 0 dX7_isHolder_34 (by decide) (aw_iret rfl (by decide) dX7_isHolder_35 (((h.2 c1).2.2 c2).2.1 c3)))) (fun c3 => (aw_iconst 1 dX7_isHolder_30 (by decide) (aw_goto 35 dX7_isHolder_31 (by decide) (aw_iret rfl (by decide) dX7_isHolder_35 (((h.2 c1).2.2 c2).2.2 c3))))))))))))))))))))))))))))))
theorem ct_X7_isHolder {Γ : Gam} {q : Nat} (hq : aAt q = some (0, 81)) {s : St} {g : Mem} {x : Int32} (h : MW q s g) : Runs Γ 2 yX7_isHolder iX7_isHolder [.inr q, .inl x] g (fun r g' => r = bi (isH s x) ∧ g' = g) := by
  refine Runs.intro (by decide) rfl (Nat.le_of_ble_eq_true rfl) (sg_X7_isHolder_0 q hq x ?_)
  rw [h.at (show 0 < 81 by decide), inI_n h.2.n]
  refine ⟨fun c => ?_, fun c => ?_⟩
  · rw [bi_eq0] at c; simp [isH, isK, c, bi]
  · rw [bi_ne0] at c
    obtain ⟨h1, h2⟩ := h.ix c 1 (by decide)
    refine ⟨h1, ?_⟩
    rw [show (1 : Int32) + x = nI 1 + x from rfl, h2]
    exact ⟨fun c2 => by simp [isH, isK, c, c2, bi], fun c2 => ⟨h1, fun c3 => by simp [isH, isK, c, c2, c3, bi], fun c3 => by simp [isH, isK, c, c2, c3, bi]⟩⟩
def refP (s : St) (h o : Int32) (k : Nat) : Bool := decide (nI (s (42 + 2 * k)) = h) && decide (nI (s (42 + 2 * k + 1)) = o)
def reqP (s : St) (h o : Int32) (k : Nat) : Bool := decide (nI (s (63 + 2 * k)) = h) && decide (nI (s (63 + 2 * k + 1)) = o)
theorem sg_X7_indexOf_0 {Γ : Gam} {P : Int32 → Mem → Prop} (q : Nat) (hq : aAt q = some (0, 81)) (a1 a2 : Int32) {g : Mem} (h : AW Γ 1 iX7_indexOf P 2 [some (.inr q), some (.inl a1), some (.inl a2), some (.inl 0)] [] g) : AW Γ 1 iX7_indexOf P 0 [some (.inr q), some (.inl a1), some (.inl a2)] [] g :=
  (aw_iconst 0 dX7_indexOf_0 (by decide) (aw_istore_n [some (.inr q), some (.inl a1), some (.inl a2), some (.inl 0)] dX7_indexOf_1 (by decide) rfl (aw_mask [true, true, true, true] rfl h)))
theorem sg_X7_indexOf_2 {Γ : Gam} {P : Int32 → Mem → Prop} (q : Nat) (hq : aAt q = some (0, 81)) (a1 a2 a3 : Int32) {g : Mem} (h : (((g q 41) ≤ a3 → P (-9) g) ∧ (¬ ((g q 41) ≤ a3) → (vp_in (42 + (2 * a3)) 81 ∧ ((¬ (g q (42 + (2 * a3)).toNatClampNeg) = a1 → AW Γ 1 iX7_indexOf P 2 [some (.inr q), some (.inl a1), some (.inl a2), some (.inl (a3 + 1))] [] g) ∧ ((g q (42 + (2 * a3)).toNatClampNeg) = a1 → (vp_in ((42 + (2 * a3)) + 1) 81 ∧ ((¬ (g q ((42 + (2 * a3)) + 1).toNatClampNeg) = a2 → AW Γ 1 iX7_indexOf P 2 [some (.inr q), some (.inl a1), some (.inl a2), some (.inl (a3 + 1))] [] g) ∧ ((g q ((42 + (2 * a3)) + 1).toNatClampNeg) = a2 → P a3 g))))))))) : AW Γ 1 iX7_indexOf P 2 [some (.inr q), some (.inl a1), some (.inl a2), some (.inl a3)] [] g :=
  (aw_iload_n dX7_indexOf_2 rfl (aw_aload_n dX7_indexOf_3 rfl (aw_bipush 41 dX7_indexOf_4 (by decide) (aw_iald hq dX7_indexOf_6 (vp_lit 41 (by decide) (by decide)) (aw_icmp_ge 44 dX7_indexOf_7 (by decide) (fun c1 => (aw_bipush (-9) dX7_indexOf_44 (by decide) (aw_iret rfl (vp_nar_int _) dX7_indexOf_46 (h.1 c1)))) (fun c1 => (aw_aload_n dX7_indexOf_10 rfl (aw_bipush 42 dX7_indexOf_11 (by decide) (aw_iconst 2 dX7_indexOf_13 (by decide) (aw_iload_n dX7_indexOf_14 rfl (aw_imul dX7_indexOf_15 (aw_iadd dX7_indexOf_16 (aw_iald hq dX7_indexOf_17 (h.2 c1).1 (aw_iload_n dX7_indexOf_18 rfl (aw_icmp_ne 38 dX7_indexOf_19 (by decide) (fun c2 => (aw_iinc (a3 + 1) [some (.inr q), some (.inl a1), some (.inl a2), some (.inl (a3 + 1))] dX7_indexOf_38 rfl (by rfl) (by decide) rfl (aw_goto 2 dX7_indexOf_41 (by decide) (aw_mask [true, true, true, true] rfl ((h.2 c1).2.1 c2))))) (fun c2 => (aw_aload_n dX7_indexOf_22 rfl (aw_bipush 42 dX7_indexOf_23 (by decide) (aw_iconst 2 dX7_indexOf_25 (by decide) (aw_iload_n dX7_indexOf_26 rfl (aw_imul dX7_indexOf_27 (aw_iadd dX7_indexOf_28 (aw_iconst 1 dX7_indexOf_29 (by decide) (aw_iadd dX7_indexOf_30 (aw_iald hq dX7_indexOf_31 ((h.2 c1).2.2 c2).1 (aw_iload_n dX7_indexOf_32 rfl (aw_icmp_ne 38 dX7_indexOf_33 (by decide) (fun c3 => (aw_iinc (a3 + 1) [some (.inr q), some (.inl a1), some (.inl a2), some (.inl (a3 + 1))] dX7_indexOf_38 rfl (by rfl) (by decide) rfl (aw_goto 2 dX7_indexOf_41 (by decide) (aw_mask [true, true, true, true] rfl (((h.2 c1).2.2 c2).2.1 c3))))) (fun c3 => (aw_iload_n dX7_indexOf_36 rfl (aw_iret rfl (vp_nar_int _) dX7_indexOf_37 (((h.2 c1).2.2 c2).2.2 c3)))))))))))))))))))))))))))))))
theorem lp_X7_indexOf {Γ : Gam} {P : Int32 → Mem → Prop} {q : Nat} (hq : aAt q = some (0, 81)) {s : St} {g : Mem} {x y : Int32} (h : MW q s g) (hP : P (fI (-9) (refP s x y) (s 41)) g) : ∀ n i, i + n = s 41 → ff (refP s x y) 0 (s 41) = ff (refP s x y) i n → AW Γ 1 iX7_indexOf P 2 [some (.inr q), some (.inl x), some (.inl y), some (.inl (nI i))] [] g := by
  intro n
  have hr := h.2.nr
  induction n with
  | zero =>
    intro i hi hf
    refine sg_X7_indexOf_2 q hq x y (nI i) ?_
    rw [h.at (show 41 < 81 by decide)]
    refine ⟨fun _ => ?_, fun c => absurd (nI_le (by omega) (by omega)) c⟩
    rw [fI_none (by rw [hf, ff]; omega)] at hP
    exact hP
  | succ n ih =>
    intro i hi hf
    refine sg_X7_indexOf_2 q hq x y (nI i) ?_
    rw [h.at (show 41 < 81 by decide), n42, nI_1, nI_1, ix_nI (by omega), ix_nI (by omega), h.at (show 42 + 2 * i < 81 by omega), h.at (show 42 + 2 * i + 1 < 81 by omega)]
    refine ⟨fun c => absurd c (nI_ge (by omega) (by omega)), fun _ => ⟨vp_nI (by omega) (by omega), fun c => ?_, fun c => ⟨vp_nI (by omega) (by omega), fun c2 => ?_, fun c2 => ?_⟩⟩⟩
    · exact ih (i + 1) (by omega) (by rw [hf, ff_F (by simp [refP, c])])
    · exact ih (i + 1) (by omega) (by rw [hf, ff_F (by simp [refP, c2])])
    · rw [fI_at (i := i) (by rw [hf, ff_T (by simp [refP, c, c2])]) (by omega)] at hP
      exact hP
theorem ct_X7_indexOf {Γ : Gam} {q : Nat} (hq : aAt q = some (0, 81)) {s : St} {g : Mem} {x y : Int32} (h : MW q s g) : Runs Γ 1 yX7_indexOf iX7_indexOf [.inr q, .inl x, .inl y] g (fun r g' => r = fI (-9) (refP s x y) (s 41) ∧ g' = g) :=
  Runs.intro (by decide) rfl (Nat.le_of_ble_eq_true rfl) (sg_X7_indexOf_0 q hq x y (lp_X7_indexOf hq h ⟨rfl, rfl⟩ (s 41) 0 (by omega) rfl))
theorem sg_X7_requirementOf_0 {Γ : Gam} {P : Int32 → Mem → Prop}  (a1 a2 : Int32) {g : Mem} (h : AW Γ 1 iX7_requirementOf P 2 [some (.inr 26), some (.inl a1), some (.inl a2), some (.inl 0)] [] g) : AW Γ 1 iX7_requirementOf P 0 [some (.inr 26), some (.inl a1), some (.inl a2)] [] g :=
  (aw_iconst 0 dX7_requirementOf_0 (by decide) (aw_istore_n [some (.inr 26), some (.inl a1), some (.inl a2), some (.inl 0)] dX7_requirementOf_1 (by decide) rfl (aw_mask [true, true, true, true] rfl h)))
theorem sg_X7_requirementOf_2 {Γ : Gam} {P : Int32 → Mem → Prop}  (a1 a2 a3 : Int32) {g : Mem} (h : (((g 27 62) ≤ a3 → P (-9) g) ∧ (¬ ((g 27 62) ≤ a3) → (vp_in (63 + (2 * a3)) 81 ∧ ((¬ (g 27 (63 + (2 * a3)).toNatClampNeg) = a1 → AW Γ 1 iX7_requirementOf P 2 [some (.inr 26), some (.inl a1), some (.inl a2), some (.inl (a3 + 1))] [] g) ∧ ((g 27 (63 + (2 * a3)).toNatClampNeg) = a1 → (vp_in ((63 + (2 * a3)) + 1) 81 ∧ ((¬ (g 27 ((63 + (2 * a3)) + 1).toNatClampNeg) = a2 → AW Γ 1 iX7_requirementOf P 2 [some (.inr 26), some (.inl a1), some (.inl a2), some (.inl (a3 + 1))] [] g) ∧ ((g 27 ((63 + (2 * a3)) + 1).toNatClampNeg) = a2 → P a3 g))))))))) : AW Γ 1 iX7_requirementOf P 2 [some (.inr 26), some (.inl a1), some (.inl a2), some (.inl a3)] [] g :=
  (aw_iload_n dX7_requirementOf_2 rfl (aw_aload_n dX7_requirementOf_3 rfl (aw_getr 27 fkX7_7 fa_26_1 dX7_requirementOf_4 (aw_bipush 62 dX7_requirementOf_7 (by decide) (aw_iald aa_27 dX7_requirementOf_9 (vp_lit 62 (by decide) (by decide)) (aw_icmp_ge 53 dX7_requirementOf_10 (by decide) (fun c1 => (aw_bipush (-9) dX7_requirementOf_53 (by decide) (aw_iret rfl (vp_nar_int _) dX7_requirementOf_55 (h.1 c1)))) (fun c1 => (aw_aload_n dX7_requirementOf_13 rfl (aw_getr 27 fkX7_7 fa_26_1 dX7_requirementOf_14 (aw_bipush 63 dX7_requirementOf_17 (by decide) (aw_iconst 2 dX7_requirementOf_19 (by decide) (aw_iload_n dX7_requirementOf_20 rfl (aw_imul dX7_requirementOf_21 (aw_iadd dX7_requirementOf_22 (aw_iald aa_27 dX7_requirementOf_23 (h.2 c1).1 (aw_iload_n dX7_requirementOf_24 rfl (aw_icmp_ne 47 dX7_requirementOf_25 (by decide) (fun c2 => (aw_iinc (a3 + 1) [some (.inr 26), some (.inl a1), some (.inl a2), some (.inl (a3 + 1))] dX7_requirementOf_47 rfl (by rfl) (by decide) rfl (aw_goto 2 dX7_requirementOf_50 (by decide) (aw_mask [true, true, true, true] rfl ((h.2 c1).2.1 c2))))) (fun c2 => (aw_aload_n dX7_requirementOf_28 rfl (aw_getr 27 fkX7_7 fa_26_1 dX7_requirementOf_29 (aw_bipush 63 dX7_requirementOf_32 (by decide) (aw_iconst 2 dX7_requirementOf_34 (by decide) (aw_iload_n dX7_requirementOf_35 rfl (aw_imul dX7_requirementOf_36 (aw_iadd dX7_requirementOf_37 (aw_iconst 1 dX7_requirementOf_38 (by decide) (aw_iadd dX7_requirementOf_39 (aw_iald aa_27 dX7_requirementOf_40 ((h.2 c1).2.2 c2).1 (aw_iload_n dX7_requirementOf_41 rfl (aw_icmp_ne 47 dX7_requirementOf_42 (by decide) (fun c3 => (aw_iinc (a3 + 1) [some (.inr 26), some (.inl a1), some (.inl a2), some (.inl (a3 + 1))] dX7_requirementOf_47 rfl (by rfl) (by decide) rfl (aw_goto 2 dX7_requirementOf_50 (by decide) (aw_mask [true, true, true, true] rfl (((h.2 c1).2.2 c2).2.1 c3))))) (fun c3 => (aw_iload_n dX7_requirementOf_45 rfl (aw_iret rfl (vp_nar_int _) dX7_requirementOf_46 (((h.2 c1).2.2 c2).2.2 c3))))))))))))))))))))))))))))))))))
theorem lp_X7_requirementOf {Γ : Gam} {P : Int32 → Mem → Prop} {s : St} {g : Mem} {x y : Int32} (h : MW 27 s g) (hP : P (fI (-9) (reqP s x y) (s 62)) g) : ∀ n i, i + n = s 62 → ff (reqP s x y) 0 (s 62) = ff (reqP s x y) i n → AW Γ 1 iX7_requirementOf P 2 [some (.inr 26), some (.inl x), some (.inl y), some (.inl (nI i))] [] g := by
  intro n
  have hr := h.2.nq
  induction n with
  | zero =>
    intro i hi hf
    refine sg_X7_requirementOf_2 x y (nI i) ?_
    rw [h.at (show 62 < 81 by decide)]
    refine ⟨fun _ => ?_, fun c => absurd (nI_le (by omega) (by omega)) c⟩
    rw [fI_none (by rw [hf, ff]; omega)] at hP
    exact hP
  | succ n ih =>
    intro i hi hf
    refine sg_X7_requirementOf_2 x y (nI i) ?_
    rw [h.at (show 62 < 81 by decide), n63, nI_1, nI_1, ix_nI (by omega), ix_nI (by omega), h.at (show 63 + 2 * i < 81 by omega), h.at (show 63 + 2 * i + 1 < 81 by omega)]
    refine ⟨fun c => absurd c (nI_ge (by omega) (by omega)), fun _ => ⟨vp_nI (by omega) (by omega), fun c => ?_, fun c => ⟨vp_nI (by omega) (by omega), fun c2 => ?_, fun c2 => ?_⟩⟩⟩
    · exact ih (i + 1) (by omega) (by rw [hf, ff_F (by simp [reqP, c])])
    · exact ih (i + 1) (by omega) (by rw [hf, ff_F (by simp [reqP, c2])])
    · rw [fI_at (i := i) (by rw [hf, ff_T (by simp [reqP, c, c2])]) (by omega)] at hP
      exact hP
theorem ct_X7_requirementOf {Γ : Gam} {s : St} {g : Mem} {x y : Int32} (h : MW 27 s g) : Runs Γ 1 yX7_requirementOf iX7_requirementOf [.inr 26, .inl x, .inl y] g (fun r g' => r = fI (-9) (reqP s x y) (s 62) ∧ g' = g) :=
  Runs.intro (by decide) rfl (Nat.le_of_ble_eq_true rfl) (sg_X7_requirementOf_0 x y (lp_X7_requirementOf h ⟨rfl, rfl⟩ (s 62) 0 (by omega) rfl))
theorem sg_X7_holds_0 {Γ : Gam} {P : Int32 → Mem → Prop}  (a1 a2 : Int32) {g : Mem} (h : (vp_in (71 + a1) 81 ∧ (bz (bi (hasB (g 27 (71 + a1).toNatClampNeg) a2)) ∧ P (bi (hasB (g 27 (71 + a1).toNatClampNeg) a2)) g))) : AW Γ 2 iX7_holds P 0 [some (.inr 26), some (.inl a1), some (.inl a2)] [] g :=
  (aw_aload_n dX7_holds_0 rfl (aw_getr 27 fkX7_7 fa_26_1 dX7_holds_1 (aw_bipush 71 dX7_holds_4 (by decide) (aw_iload_n dX7_holds_6 rfl (aw_iadd dX7_holds_7 (aw_iald aa_27 dX7_holds_8 h.1 (aw_iload_n dX7_holds_9 rfl (aw_callSi lkX7_151 ckX7_has (d := 1) (by decide) [.inl (g 27 (71 + a1).toNatClampNeg), .inl a2] rfl rfl (Nat.le_of_ble_eq_true rfl) dX7_holds_10 rfl (Runs.fn ct_X7_has (aw_iret rfl h.2.1 dX7_holds_13 h.2.2))))))))))
theorem ct_X7_holds {Γ : Gam} {s : St} {g : Mem} {x y : Int32} (h : MW 27 s g ∧ inR 10 x = true) : Runs Γ 2 yX7_holds iX7_holds [.inr 26, .inl x, .inl y] g (fun r g' => r = bi (hasB (nI (s (71 + x.toNatClampNeg))) y) ∧ g' = g) := by
  obtain ⟨h, hx⟩ := h
  obtain ⟨h1, h2⟩ := inR_ex hx
  have e : 71 + x = nI (71 + x.toNatClampNeg) := by
    conv => lhs; rw [h2]
    exact n71 _
  refine Runs.intro (by decide) rfl (Nat.le_of_ble_eq_true rfl) (sg_X7_holds_0 x y ?_)
  rw [e, ix_nI (by omega), h.at (by omega)]
  exact ⟨vp_nI (by omega) (by omega), bz_bi _, rfl, rfl⟩
theorem and1_nI {r k : Nat} (hr : r < 2 ^ 31) (hk : k < 31) : (nI r >>> (nI k &&& 31)) &&& 1 = nI (if r.testBit k then 1 else 0) := by
  rw [pk_shrN hr (nI k &&& 31) k (sh_l k (by omega)), pk_andN (m := 1) (Nat.lt_of_le_of_lt (Nat.div_le_self _ _) (by omega)) 1 rfl, Nat.testBit_eq_decide_div_mod_eq]
  have h2 : r / 2 ^ k % 2 ^ 1 < 2 := Nat.mod_lt _ (by decide)
  rcases (show r / 2 ^ k % 2 ^ 1 = 0 ∨ r / 2 ^ k % 2 ^ 1 = 1 by omega) with e | e
  · rw [e]; simp [show r / 2 ^ k % 2 = 0 from e]
  · rw [e]; simp [show r / 2 ^ k % 2 = 1 from e]
theorem sg_X7_bitCount_0 {Γ : Gam} {P : Int32 → Mem → Prop}  (a0 : Int32) {g : Mem} (h : AW Γ 1 iX7_bitCount P 4 [some (.inl a0), some (.inl 0), some (.inl 0)] [] g) : AW Γ 1 iX7_bitCount P 0 [some (.inl a0)] [] g :=
  (aw_iconst 0 dX7_bitCount_0 (by decide) (aw_istore_n [some (.inl a0), some (.inl 0)] dX7_bitCount_1 (by decide) rfl (aw_iconst 0 dX7_bitCount_2 (by decide) (aw_istore_n [some (.inl a0), some (.inl 0), some (.inl 0)] dX7_bitCount_3 (by decide) rfl (aw_mask [true, true, true] rfl h)))))
theorem sg_X7_bitCount_4 {Γ : Gam} {P : Int32 → Mem → Prop}  (a0 a1 a2 : Int32) {g : Mem} (h : ((10 ≤ a2 → P a1 g) ∧ (¬ (10 ≤ a2) → AW Γ 1 iX7_bitCount P 4 [some (.inl a0), some (.inl (a1 + ((a0 >>> (a2 &&& 31)) &&& 1))), some (.inl (a2 + 1))] [] g))) : AW Γ 1 iX7_bitCount P 4 [some (.inl a0), some (.inl a1), some (.inl a2)] [] g :=
  (aw_iload_n dX7_bitCount_4 rfl (aw_bipush 10 dX7_bitCount_5 (by decide) (aw_icmp_ge 24 dX7_bitCount_7 (by decide) (fun c1 => (aw_iload_n dX7_bitCount_24 rfl (aw_iret rfl (vp_nar_int _) dX7_bitCount_25 (h.1 c1)))) (fun c1 => (aw_iload_n dX7_bitCount_10 rfl (aw_iload_n dX7_bitCount_11 rfl (aw_iload_n dX7_bitCount_12 rfl (aw_ishr dX7_bitCount_13 (aw_iconst 1 dX7_bitCount_14 (by decide) (aw_iand dX7_bitCount_15 (aw_iadd dX7_bitCount_16 (aw_istore_n [some (.inl a0), some (.inl (a1 + ((a0 >>> (a2 &&& 31)) &&& 1))), some (.inl a2)] dX7_bitCount_17 (by decide) rfl (aw_iinc (a2 + 1) [some (.inl a0), some (.inl (a1 + ((a0 >>> (a2 &&& 31)) &&& 1))), some (.inl (a2 + 1))] dX7_bitCount_18 rfl (by rfl) (by decide) rfl (aw_goto 4 dX7_bitCount_21 (by decide) (aw_mask [true, true, true] rfl (h.2 c1))))))))))))))))
theorem lp_X7_bitCount {Γ : Gam} {P : Int32 → Mem → Prop} {r : Nat} (hr : r < 2 ^ 31) {g : Mem} (hP : P (nI (pop r 10)) g) : ∀ n i, i + n = 10 → AW Γ 1 iX7_bitCount P 4 [some (.inl (nI r)), some (.inl (nI (pop r i))), some (.inl (nI i))] [] g := by
  intro n
  induction n with
  | zero =>
    intro i hi
    have e : i = 10 := by omega
    subst e
    exact sg_X7_bitCount_4 _ _ _ ⟨fun _ => hP, fun c => absurd (nI_le (Nat.le_refl 10) (by decide)) c⟩
  | succ n ih =>
    intro i hi
    refine sg_X7_bitCount_4 _ _ _ ⟨fun c => absurd c (nI_ge (show i < 10 by omega) (by decide)), fun _ => ?_⟩
    rw [and1_nI hr (by omega), nI_add, nI_1]
    exact ih (i + 1) (by omega)
theorem ct_X7_bitCount {Γ : Gam} {r : Nat} (hr : r < 2 ^ 31) {g : Mem} : Runs Γ 1 yX7_bitCount iX7_bitCount [.inl (nI r)] g (fun v g' => v = nI (pop r 10) ∧ g' = g) :=
  Runs.intro (by decide) rfl (Nat.le_of_ble_eq_true rfl) (sg_X7_bitCount_0 (nI r) (lp_X7_bitCount hr ⟨rfl, rfl⟩ 10 0 rfl))
/-! the class's -/
theorem sg_X4_listsReference_0 {Γ : Gam} {P : Int32 → Mem → Prop} (b : Nat) (hb : isSt b) (a1 a2 : Int32) {g : Mem} (h : AW Γ 1 iX4_listsReference P 2 [some (.inr b), some (.inl a1), some (.inl a2), some (.inl 0)] [] g) : AW Γ 1 iX4_listsReference P 0 [some (.inr b), some (.inl a1), some (.inl a2)] [] g :=
  (aw_iconst 0 dX4_listsReference_0 (by decide) (aw_istore_n [some (.inr b), some (.inl a1), some (.inl a2), some (.inl 0)] dX4_listsReference_1 (by decide) rfl (aw_mask [true, true, true, true] rfl h)))
theorem sg_X4_listsReference_2 {Γ : Gam} {P : Int32 → Mem → Prop} (b : Nat) (hb : isSt b) (a1 a2 a3 : Int32) {g : Mem} (h : (((g b 5) ≤ a3 → P 0 g) ∧ (¬ ((g b 5) ≤ a3) → (vp_in a3 10 ∧ ((¬ (g (b + 5) a3.toNatClampNeg) = a1 → AW Γ 1 iX4_listsReference P 2 [some (.inr b), some (.inl a1), some (.inl a2), some (.inl (a3 + 1))] [] g) ∧ ((g (b + 5) a3.toNatClampNeg) = a1 → (vp_in a3 10 ∧ ((¬ (g (b + 6) a3.toNatClampNeg) = a2 → AW Γ 1 iX4_listsReference P 2 [some (.inr b), some (.inl a1), some (.inl a2), some (.inl (a3 + 1))] [] g) ∧ ((g (b + 6) a3.toNatClampNeg) = a2 → P 1 g))))))))) : AW Γ 1 iX4_listsReference P 2 [some (.inr b), some (.inl a1), some (.inl a2), some (.inl a3)] [] g :=
  (aw_iload_n dX4_listsReference_2 rfl (aw_aload_n dX4_listsReference_3 rfl (aw_geti fkX4_28 (fs_5 hb) dX4_listsReference_4 (aw_icmp_ge 38 dX4_listsReference_7 (by decide) (fun c1 => (aw_iconst 0 dX4_listsReference_38 (by decide) (aw_iret rfl (by decide) dX4_listsReference_39 (h.1 c1)))) (fun c1 => (aw_aload_n dX4_listsReference_10 rfl (aw_getr (b + 5) fkX4_31 (fs_6 hb) dX4_listsReference_11 (aw_iload_n dX4_listsReference_14 rfl (aw_iald (as_5 hb) dX4_listsReference_15 (h.2 c1).1 (aw_iload_n dX4_listsReference_16 rfl (aw_icmp_ne 32 dX4_listsReference_17 (by decide) (fun c2 => (aw_iinc (a3 + 1) [some (.inr b), some (.inl a1), some (.inl a2), some (.inl (a3 + 1))] dX4_listsReference_32 rfl (by rfl) (by decide) rfl (aw_goto 2 dX4_listsReference_35 (by decide) (aw_mask [true, true, true, true] rfl ((h.2 c1).2.1 c2))))) (fun c2 => (aw_aload_n dX4_listsReference_20 rfl (aw_getr (b + 6) fkX4_34 (fs_7 hb) dX4_listsReference_21 (aw_iload_n dX4_listsReference_24 rfl (aw_iald (as_6 hb) dX4_listsReference_25 ((h.2 c1).2.2 c2).1 (aw_iload_n dX4_listsReference_26 rfl (aw_icmp_ne 32 dX4_listsReference_27 (by decide) (fun c3 => (aw_iinc (a3 + 1) [some (.inr b), some (.inl a1), some (.inl a2), some (.inl (a3 + 1))] dX4_listsReference_32 rfl (by rfl) (by decide) rfl (aw_goto 2 dX4_listsReference_35 (by decide) (aw_mask [true, true, true, true] rfl (((h.2 c1).2.2 c2).2.1 c3))))) (fun c3 => (aw_iconst 1 dX4_listsReference_30 (by decide) (aw_iret rfl (by decide) dX4_listsReference_31 (((h.2 c1).2.2 c2).2.2 c3))))))))))))))))))))))
theorem lp_X4_listsReference {Γ : Gam} {P : Int32 → Mem → Prop} {b : Nat} (hb : isSt b) {s : St} {g : Mem} {x y : Int32} (h : CW b s g) (hP : P (bi (decide (ff (refP s x y) 0 (s 41) < s 41))) g) : ∀ n i, i + n = s 41 → ff (refP s x y) 0 (s 41) = ff (refP s x y) i n → AW Γ 1 iX4_listsReference P 2 [some (.inr b), some (.inl x), some (.inl y), some (.inl (nI i))] [] g := by
  intro n
  have hr := h.2.nr
  induction n with
  | zero =>
    intro i hi hf
    refine sg_X4_listsReference_2 b hb x y (nI i) ?_
    rw [h.1.2.2.2.2.2.1]
    refine ⟨fun _ => ?_, fun c => absurd (nI_le (by omega) (by omega)) c⟩
    rw [hf, ff, decide_eq_false (by omega)] at hP
    exact hP
  | succ n ih =>
    intro i hi hf
    refine sg_X4_listsReference_2 b hb x y (nI i) ?_
    obtain ⟨e1, e2⟩ := h.1.2.2.2.2.2.2.1 i (by omega)
    rw [h.1.2.2.2.2.2.1, nI_1, ix_nI (by omega), e1, e2]
    refine ⟨fun c => absurd c (nI_ge (by omega) (by omega)), fun _ => ⟨vp_nI (by omega) (by omega), fun c => ?_, fun c => ⟨vp_nI (by omega) (by omega), fun c2 => ?_, fun c2 => ?_⟩⟩⟩
    · exact ih (i + 1) (by omega) (by rw [hf, ff_F (by simp [refP, c])])
    · exact ih (i + 1) (by omega) (by rw [hf, ff_F (by simp [refP, c2])])
    · rw [hf, ff_T (by simp [refP, c, c2]), decide_eq_true (by omega)] at hP
      exact hP
theorem ct_X4_listsReference {Γ : Gam} {b : Nat} (hb : isSt b) {s : St} {g : Mem} {x y : Int32} (h : CW b s g) : Runs Γ 1 yX4_listsReference iX4_listsReference [.inr b, .inl x, .inl y] g (fun r g' => r = bi (decide (ff (refP s x y) 0 (s 41) < s 41)) ∧ g' = g) :=
  Runs.intro (by decide) rfl (Nat.le_of_ble_eq_true rfl) (sg_X4_listsReference_0 b hb x y (lp_X4_listsReference hb h ⟨rfl, rfl⟩ (s 41) 0 (by omega) rfl))
theorem sg_X4_findRequirement_0 {Γ : Gam} {P : Int32 → Mem → Prop} (b : Nat) (hb : isSt b) (a1 a2 : Int32) {g : Mem} (h : AW Γ 1 iX4_findRequirement P 2 [some (.inr b), some (.inl a1), some (.inl a2), some (.inl 0)] [] g) : AW Γ 1 iX4_findRequirement P 0 [some (.inr b), some (.inl a1), some (.inl a2)] [] g :=
  (aw_iconst 0 dX4_findRequirement_0 (by decide) (aw_istore_n [some (.inr b), some (.inl a1), some (.inl a2), some (.inl 0)] dX4_findRequirement_1 (by decide) rfl (aw_mask [true, true, true, true] rfl h)))
theorem sg_X4_findRequirement_2 {Γ : Gam} {P : Int32 → Mem → Prop} (b : Nat) (hb : isSt b) (a1 a2 a3 : Int32) {g : Mem} (h : (((g b 8) ≤ a3 → P (-1) g) ∧ (¬ ((g b 8) ≤ a3) → (vp_in a3 4 ∧ ((¬ (g (b + 7) a3.toNatClampNeg) = a1 → AW Γ 1 iX4_findRequirement P 2 [some (.inr b), some (.inl a1), some (.inl a2), some (.inl (a3 + 1))] [] g) ∧ ((g (b + 7) a3.toNatClampNeg) = a1 → (vp_in a3 4 ∧ ((¬ (g (b + 8) a3.toNatClampNeg) = a2 → AW Γ 1 iX4_findRequirement P 2 [some (.inr b), some (.inl a1), some (.inl a2), some (.inl (a3 + 1))] [] g) ∧ ((g (b + 8) a3.toNatClampNeg) = a2 → P a3 g))))))))) : AW Γ 1 iX4_findRequirement P 2 [some (.inr b), some (.inl a1), some (.inl a2), some (.inl a3)] [] g :=
  (aw_iload_n dX4_findRequirement_2 rfl (aw_aload_n dX4_findRequirement_3 rfl (aw_geti fkX4_37 (fs_8 hb) dX4_findRequirement_4 (aw_icmp_ge 38 dX4_findRequirement_7 (by decide) (fun c1 => (aw_iconst (-1) dX4_findRequirement_38 (by decide) (aw_iret rfl (vp_nar_int _) dX4_findRequirement_39 (h.1 c1)))) (fun c1 => (aw_aload_n dX4_findRequirement_10 rfl (aw_getr (b + 7) fkX4_40 (fs_9 hb) dX4_findRequirement_11 (aw_iload_n dX4_findRequirement_14 rfl (aw_iald (as_7 hb) dX4_findRequirement_15 (h.2 c1).1 (aw_iload_n dX4_findRequirement_16 rfl (aw_icmp_ne 32 dX4_findRequirement_17 (by decide) (fun c2 => (aw_iinc (a3 + 1) [some (.inr b), some (.inl a1), some (.inl a2), some (.inl (a3 + 1))] dX4_findRequirement_32 rfl (by rfl) (by decide) rfl (aw_goto 2 dX4_findRequirement_35 (by decide) (aw_mask [true, true, true, true] rfl ((h.2 c1).2.1 c2))))) (fun c2 => (aw_aload_n dX4_findRequirement_20 rfl (aw_getr (b + 8) fkX4_43 (fs_10 hb) dX4_findRequirement_21 (aw_iload_n dX4_findRequirement_24 rfl (aw_iald (as_8 hb) dX4_findRequirement_25 ((h.2 c1).2.2 c2).1 (aw_iload_n dX4_findRequirement_26 rfl (aw_icmp_ne 32 dX4_findRequirement_27 (by decide) (fun c3 => (aw_iinc (a3 + 1) [some (.inr b), some (.inl a1), some (.inl a2), some (.inl (a3 + 1))] dX4_findRequirement_32 rfl (by rfl) (by decide) rfl (aw_goto 2 dX4_findRequirement_35 (by decide) (aw_mask [true, true, true, true] rfl (((h.2 c1).2.2 c2).2.1 c3))))) (fun c3 => (aw_iload_n dX4_findRequirement_30 rfl (aw_iret rfl (vp_nar_int _) dX4_findRequirement_31 (((h.2 c1).2.2 c2).2.2 c3))))))))))))))))))))))
theorem lp_X4_findRequirement {Γ : Gam} {P : Int32 → Mem → Prop} {b : Nat} (hb : isSt b) {s : St} {g : Mem} {x y : Int32} (h : CW b s g) (hP : P (fI (-1) (reqP s x y) (s 62)) g) : ∀ n i, i + n = s 62 → ff (reqP s x y) 0 (s 62) = ff (reqP s x y) i n → AW Γ 1 iX4_findRequirement P 2 [some (.inr b), some (.inl x), some (.inl y), some (.inl (nI i))] [] g := by
  intro n
  have hr := h.2.nq
  induction n with
  | zero =>
    intro i hi hf
    refine sg_X4_findRequirement_2 b hb x y (nI i) ?_
    rw [h.1.2.2.2.2.2.2.2.1]
    refine ⟨fun _ => ?_, fun c => absurd (nI_le (by omega) (by omega)) c⟩
    rw [fI_none (by rw [hf, ff]; omega)] at hP
    exact hP
  | succ n ih =>
    intro i hi hf
    refine sg_X4_findRequirement_2 b hb x y (nI i) ?_
    obtain ⟨e1, e2⟩ := h.1.2.2.2.2.2.2.2.2.1 i (by omega)
    rw [h.1.2.2.2.2.2.2.2.1, nI_1, ix_nI (by omega), e1, e2]
    refine ⟨fun c => absurd c (nI_ge (by omega) (by omega)), fun _ => ⟨vp_nI (by omega) (by omega), fun c => ?_, fun c => ⟨vp_nI (by omega) (by omega), fun c2 => ?_, fun c2 => ?_⟩⟩⟩
    · exact ih (i + 1) (by omega) (by rw [hf, ff_F (by simp [reqP, c])])
    · exact ih (i + 1) (by omega) (by rw [hf, ff_F (by simp [reqP, c2])])
    · rw [fI_at (i := i) (by rw [hf, ff_T (by simp [reqP, c, c2])]) (by omega)] at hP
      exact hP
theorem ct_X4_findRequirement {Γ : Gam} {b : Nat} (hb : isSt b) {s : St} {g : Mem} {x y : Int32} (h : CW b s g) : Runs Γ 1 yX4_findRequirement iX4_findRequirement [.inr b, .inl x, .inl y] g (fun r g' => r = fI (-1) (reqP s x y) (s 62) ∧ g' = g) :=
  Runs.intro (by decide) rfl (Nat.le_of_ble_eq_true rfl) (sg_X4_findRequirement_0 b hb x y (lp_X4_findRequirement hb h ⟨rfl, rfl⟩ (s 62) 0 (by omega) rfl))
theorem sg_X4_runHolds_0 {Γ : Gam} {P : Int32 → Mem → Prop} (b : Nat) (hb : isSt b) (a1 a2 : Int32) {g : Mem} (h : (vp_in a1 10 ∧ (bz (bi (hasB (g (b + 9) a1.toNatClampNeg) a2)) ∧ P (bi (hasB (g (b + 9) a1.toNatClampNeg) a2)) g))) : AW Γ 2 iX4_runHolds P 0 [some (.inr b), some (.inl a1), some (.inl a2)] [] g :=
  (aw_aload_n dX4_runHolds_0 rfl (aw_getr (b + 9) fkX4_46 (fs_11 hb) dX4_runHolds_1 (aw_iload_n dX4_runHolds_4 rfl (aw_iald (as_9 hb) dX4_runHolds_5 h.1 (aw_iload_n dX4_runHolds_6 rfl (aw_callSNi nkX4_72 ckX6_contains (d := 1) (by decide) [.inl (g (b + 9) a1.toNatClampNeg), .inl a2] rfl rfl (Nat.le_of_ble_eq_true rfl) dX4_runHolds_7 rfl (Runs.fn ct_X6_contains (aw_iret rfl h.2.1 dX4_runHolds_10 h.2.2))))))))
theorem ct_X4_runHolds {Γ : Gam} {b : Nat} (hb : isSt b) {s : St} {g : Mem} {x y : Int32} (h : CW b s g ∧ inR 10 x = true) : Runs Γ 2 yX4_runHolds iX4_runHolds [.inr b, .inl x, .inl y] g (fun r g' => r = bi (hasB (nI (s (71 + x.toNatClampNeg))) y) ∧ g' = g) := by
  obtain ⟨h, hx⟩ := h
  refine Runs.intro (by decide) rfl (Nat.le_of_ble_eq_true rfl) (sg_X4_runHolds_0 b hb x y ⟨vp_inR hx (Nat.le_refl _) (by decide), bz_bi _, ?_, rfl⟩)
  rw [h.1.2.2.2.2.2.2.2.2.2 _ (inR_ex hx).1]
/-- the number of references of the run -/
def sumPop (s : St) : Nat → Nat
  | 0 => 0
  | k + 1 => sumPop s k + pop (s (71 + k)) 10
theorem sg_X4_countRun_0 {Γ : Gam} {P : Int32 → Mem → Prop} (b : Nat) (hb : isSt b) {g : Mem} (h : AW Γ 2 iX4_countRun P 4 [some (.inr b), some (.inl 0), some (.inl 0)] [] g) : AW Γ 2 iX4_countRun P 0 [some (.inr b)] [] g :=
  (aw_iconst 0 dX4_countRun_0 (by decide) (aw_istore_n [some (.inr b), some (.inl 0)] dX4_countRun_1 (by decide) rfl (aw_iconst 0 dX4_countRun_2 (by decide) (aw_istore_n [some (.inr b), some (.inl 0), some (.inl 0)] dX4_countRun_3 (by decide) rfl (aw_mask [true, true, true] rfl h)))))
theorem sg_X4_countRun_4 {Γ : Gam} {P : Int32 → Mem → Prop} (b : Nat) (hb : isSt b) (a1 a2 : Int32) {g : Mem} (h : ((10 ≤ a2 → P a1 g) ∧ (¬ (10 ≤ a2) → (vp_in a2 10 ∧ AW Γ 2 iX4_countRun P 4 [some (.inr b), some (.inl (a1 + (bcI (g (b + 9) a2.toNatClampNeg)))), some (.inl (a2 + 1))] [] g)))) : AW Γ 2 iX4_countRun P 4 [some (.inr b), some (.inl a1), some (.inl a2)] [] g :=
  (aw_iload_n dX4_countRun_4 rfl (aw_bipush 10 dX4_countRun_5 (by decide) (aw_icmp_ge 28 dX4_countRun_7 (by decide) (fun c1 => (aw_iload_n dX4_countRun_28 rfl (aw_iret rfl (vp_nar_int _) dX4_countRun_29 (h.1 c1)))) (fun c1 => (aw_iload_n dX4_countRun_10 rfl (aw_aload_n dX4_countRun_11 rfl (aw_getr (b + 9) fkX4_46 (fs_11 hb) dX4_countRun_12 (aw_iload_n dX4_countRun_15 rfl (aw_iald (as_9 hb) dX4_countRun_16 (h.2 c1).1 (aw_callSi lkX4_82 ckJ6_bitCount_0f7a4 (d := 1) (by decide) [.inl (g (b + 9) a2.toNatClampNeg)] rfl rfl (Nat.le_of_ble_eq_true rfl) dX4_countRun_17 rfl (Runs.fn ct_J6_bitCount (aw_iadd dX4_countRun_20 (aw_istore_n [some (.inr b), some (.inl (a1 + (bcI (g (b + 9) a2.toNatClampNeg)))), some (.inl a2)] dX4_countRun_21 (by decide) rfl (aw_iinc (a2 + 1) [some (.inr b), some (.inl (a1 + (bcI (g (b + 9) a2.toNatClampNeg)))), some (.inl (a2 + 1))] dX4_countRun_22 rfl (by rfl) (by decide) rfl (aw_goto 4 dX4_countRun_25 (by decide) (aw_mask [true, true, true] rfl (h.2 c1).2))))))))))))))))
theorem lp_X4_countRun {Γ : Gam} {P : Int32 → Mem → Prop} {b : Nat} (hb : isSt b) {s : St} {g : Mem} (h : CW b s g) (hP : P (nI (sumPop s 10)) g) : ∀ n i, i + n = 10 → AW Γ 2 iX4_countRun P 4 [some (.inr b), some (.inl (nI (sumPop s i))), some (.inl (nI i))] [] g := by
  intro n
  induction n with
  | zero =>
    intro i hi
    have e : i = 10 := by omega
    subst e
    exact sg_X4_countRun_4 b hb _ _ ⟨fun _ => hP, fun c => absurd (nI_le (Nat.le_refl 10) (by decide)) c⟩
  | succ n ih =>
    intro i hi
    refine sg_X4_countRun_4 b hb _ _ ⟨fun c => absurd c (nI_ge (show i < 10 by omega) (by decide)), fun _ => ⟨vp_nI (by omega) (by decide), ?_⟩⟩
    rw [ix_nI (by omega), h.1.2.2.2.2.2.2.2.2.2 i (by omega), bcI_nI _ (h.2.rn (by omega)), nI_add, nI_1]
    exact ih (i + 1) (by omega)
theorem ct_X4_countRun {Γ : Gam} {b : Nat} (hb : isSt b) {s : St} {g : Mem} (h : CW b s g) : Runs Γ 2 yX4_countRun iX4_countRun [.inr b] g (fun r g' => r = nI (sumPop s 10) ∧ g' = g) :=
  Runs.intro (by decide) rfl (Nat.le_of_ble_eq_true rfl) (sg_X4_countRun_0 b hb (lp_X4_countRun hb h ⟨rfl, rfl⟩ 10 0 rfl))
end
section
/-! Saving, copying, beginning a run. -/
theorem cpy_ne {g : Mem} {q0 q1 sp dp n a : Nat} (h : a ≠ q1) : cpy g q0 q1 sp dp n a = g a := by simp [cpy, h]
theorem cpy_same (g : Mem) (q0 q1 sp dp n : Nat) : cpy g q0 q1 sp dp n q1 = va_cpy (g q0) (g q1) sp dp n := by simp [cpy]
theorem fil_ne {g : Mem} {q n a : Nat} {v : Int32} (h : a ≠ q) : fil g q n v a = g a := by simp [fil, h]
theorem fil_at {g : Mem} {q n j : Nat} {v : Int32} (h : j < n) : fil g q n v q j = v := by simp [fil, h]
theorem up_at (g : Mem) (k i : Nat) (v : Int32) : up g k i v k i = v := by simp [up, upd]
theorem up_nx {g : Mem} {k i j : Nat} {v : Int32} (h : j ≠ i) : up g k i v k j = g k j := by simp [up, upd, h]
theorem CS.ext {b : Nat} {s : St} {g g' : Mem} (h : CS b s g) (he : ∀ k, b ≤ k → k < b + 10 → g' k = g k) : CS b s g' := by
  unfold CS at h ⊢
  rw [he b (by omega) (by omega), he (b + 1) (by omega) (by omega), he (b + 2) (by omega) (by omega), he (b + 3) (by omega) (by omega), he (b + 4) (by omega) (by omega), he (b + 5) (by omega) (by omega), he (b + 6) (by omega) (by omega), he (b + 7) (by omega) (by omega), he (b + 8) (by omega) (by omega), he (b + 9) (by omega) (by omega)]
  exact h
theorem isSt_apart {b q : Nat} (hb : isSt b) (hq : isSt q) (hne : b ≠ q) : b + 10 ≤ q ∨ q + 10 ≤ b := by
  unfold isSt at hb hq
  omega
theorem sg_X4_copyFrom_0 {Γ : Gam} {P : Int32 → Mem → Prop} (b : Nat) (hb : isSt b) (q : Nat) (hq : isSt q) {g : Mem} (h : P 0 (cpy (cpy (cpy (up (cpy (cpy (up (cpy (cpy (cpy (cpy (up g b 0 (g q 0)) (q + 1) (b + 1) 0 0 10) (q + 2) (b + 2) 0 0 10) (q + 3) (b + 3) 0 0 10) (q + 4) (b + 4) 0 0 10) b 5 ((cpy (cpy (cpy (cpy (up g b 0 (g q 0)) (q + 1) (b + 1) 0 0 10) (q + 2) (b + 2) 0 0 10) (q + 3) (b + 3) 0 0 10) (q + 4) (b + 4) 0 0 10) q 5)) (q + 5) (b + 5) 0 0 10) (q + 6) (b + 6) 0 0 10) b 8 ((cpy (cpy (up (cpy (cpy (cpy (cpy (up g b 0 (g q 0)) (q + 1) (b + 1) 0 0 10) (q + 2) (b + 2) 0 0 10) (q + 3) (b + 3) 0 0 10) (q + 4) (b + 4) 0 0 10) b 5 ((cpy (cpy (cpy (cpy (up g b 0 (g q 0)) (q + 1) (b + 1) 0 0 10) (q + 2) (b + 2) 0 0 10) (q + 3) (b + 3) 0 0 10) (q + 4) (b + 4) 0 0 10) q 5)) (q + 5) (b + 5) 0 0 10) (q + 6) (b + 6) 0 0 10) q 8)) (q + 7) (b + 7) 0 0 4) (q + 8) (b + 8) 0 0 4) (q + 9) (b + 9) 0 0 10)) : AW Γ 1 iX4_copyFrom P 0 [some (.inr b), some (.inr q)] [] g :=
  (aw_aload_n dX4_copyFrom_0 rfl (aw_aload_n dX4_copyFrom_1 rfl (aw_geti fkX4_9 (fs_0 hq) dX4_copyFrom_2 (aw_putf fpX4_9 (fs_0 hb) (vp_nar_int _) rfl dX4_copyFrom_5 (aw_aload_n dX4_copyFrom_8 rfl (aw_getr (q + 1) fkX4_15 (fs_1 hq) dX4_copyFrom_9 (aw_iconst 0 dX4_copyFrom_12 (by decide) (aw_aload_n dX4_copyFrom_13 rfl (aw_getr (b + 1) fkX4_15 (fs_1 hb) dX4_copyFrom_14 (aw_iconst 0 dX4_copyFrom_17 (by decide) (aw_bipush 10 dX4_copyFrom_18 (by decide) (aw_copy wcpX4_55 (as_1 hq) (as_1 hb) (by decide) (Nat.le_of_ble_eq_true rfl) dX4_copyFrom_20 (by decide) (aw_aload_n dX4_copyFrom_23 rfl (aw_getr (q + 2) fkX4_19 (fs_2 hq) dX4_copyFrom_24 (aw_iconst 0 dX4_copyFrom_27 (by decide) (aw_aload_n dX4_copyFrom_28 rfl (aw_getr (b + 2) fkX4_19 (fs_2 hb) dX4_copyFrom_29 (aw_iconst 0 dX4_copyFrom_32 (by decide) (aw_bipush 10 dX4_copyFrom_33 (by decide) (aw_copy wcpX4_55 (as_2 hq) (as_2 hb) (by decide) (Nat.le_of_ble_eq_true rfl) dX4_copyFrom_35 (by decide) (aw_aload_n dX4_copyFrom_38 rfl (aw_getr (q + 3) fkX4_22 (fs_3 hq) dX4_copyFrom_39 (aw_iconst 0 dX4_copyFrom_42 (by decide) (aw_aload_n dX4_copyFrom_43 rfl (aw_getr (b + 3) fkX4_22 (fs_3 hb) dX4_copyFrom_44 (aw_iconst 0 dX4_copyFrom_47 (by decide) (aw_bipush 10 dX4_copyFrom_48 (by decide) (aw_copy wcpX4_55 (as_3 hq) (as_3 hb) (by decide) (Nat.le_of_ble_eq_true rfl) dX4_copyFrom_50 (by decide) (aw_aload_n dX4_copyFrom_53 rfl (aw_getr (q + 4) fkX4_25 (fs_4 hq) dX4_copyFrom_54 (aw_iconst 0 dX4_copyFrom_57 (by decide) (aw_aload_n dX4_copyFrom_58 rfl (aw_getr (b + 4) fkX4_25 (fs_4 hb) dX4_copyFrom_59 (aw_iconst 0 dX4_copyFrom_62 (by decide) (aw_bipush 10 dX4_copyFrom_63 (by decide) (aw_copy wcpX4_55 (as_4 hq) (as_4 hb) (by decide) (Nat.le_of_ble_eq_true rfl) dX4_copyFrom_65 (by decide) (aw_aload_n dX4_copyFrom_68 rfl (aw_aload_n dX4_copyFrom_69 rfl (aw_geti fkX4_28 (fs_5 hq) dX4_copyFrom_70 (aw_putf fpX4_28 (fs_5 hb) (vp_nar_int _) rfl dX4_copyFrom_73 (aw_aload_n dX4_copyFrom_76 rfl (aw_getr (q + 5) fkX4_31 (fs_6 hq) dX4_copyFrom_77 (aw_iconst 0 dX4_copyFrom_80 (by decide) (aw_aload_n dX4_copyFrom_81 rfl (aw_getr (b + 5) fkX4_31 (fs_6 hb) dX4_copyFrom_82 (aw_iconst 0 dX4_copyFrom_85 (by decide) (aw_bipush 10 dX4_copyFrom_86 (by decide) (aw_copy wcpX4_55 (as_5 hq) (as_5 hb) (by decide) (Nat.le_of_ble_eq_true rfl) dX4_copyFrom_88 (by decide) (aw_aload_n dX4_copyFrom_91 rfl (aw_getr (q + 6) fkX4_34 (fs_7 hq) dX4_copyFrom_92 (aw_iconst 0 dX4_copyFrom_95 (by decide) (aw_aload_n dX4_copyFrom_96 rfl (aw_getr (b + 6) fkX4_34 (fs_7 hb) dX4_copyFrom_97 (aw_iconst 0 dX4_copyFrom_100 (by decide) (aw_bipush 10 dX4_copyFrom_101 (by decide) (aw_copy wcpX4_55 (as_6 hq) (as_6 hb) (by decide) (Nat.le_of_ble_eq_true rfl) dX4_copyFrom_103 (by decide) (aw_aload_n dX4_copyFrom_106 rfl (aw_aload_n dX4_copyFrom_107 rfl (aw_geti fkX4_37 (fs_8 hq) dX4_copyFrom_108 (aw_putf fpX4_37 (fs_8 hb) (vp_nar_int _) rfl dX4_copyFrom_111 (aw_aload_n dX4_copyFrom_114 rfl (aw_getr (q + 7) fkX4_40 (fs_9 hq) dX4_copyFrom_115 (aw_iconst 0 dX4_copyFrom_118 (by decide) (aw_aload_n dX4_copyFrom_119 rfl (aw_getr (b + 7) fkX4_40 (fs_9 hb) dX4_copyFrom_120 (aw_iconst 0 dX4_copyFrom_123 (by decide) (aw_iconst 4 dX4_copyFrom_124 (by decide) (aw_copy wcpX4_55 (as_7 hq) (as_7 hb) (by decide) (Nat.le_of_ble_eq_true rfl) dX4_copyFrom_125 (by decide) (aw_aload_n dX4_copyFrom_128 rfl (aw_getr (q + 8) fkX4_43 (fs_10 hq) dX4_copyFrom_129 (aw_iconst 0 dX4_copyFrom_132 (by decide) (aw_aload_n dX4_copyFrom_133 rfl (aw_getr (b + 8) fkX4_43 (fs_10 hb) dX4_copyFrom_134 (aw_iconst 0 dX4_copyFrom_137 (by decide) (aw_iconst 4 dX4_copyFrom_138 (by decide) (aw_copy wcpX4_55 (as_8 hq) (as_8 hb) (by decide) (Nat.le_of_ble_eq_true rfl) dX4_copyFrom_139 (by decide) (aw_aload_n dX4_copyFrom_142 rfl (aw_getr (q + 9) fkX4_46 (fs_11 hq) dX4_copyFrom_143 (aw_iconst 0 dX4_copyFrom_146 (by decide) (aw_aload_n dX4_copyFrom_147 rfl (aw_getr (b + 9) fkX4_46 (fs_11 hb) dX4_copyFrom_148 (aw_iconst 0 dX4_copyFrom_151 (by decide) (aw_bipush 10 dX4_copyFrom_152 (by decide) (aw_copy wcpX4_55 (as_9 hq) (as_9 hb) (by decide) (Nat.le_of_ble_eq_true rfl) dX4_copyFrom_154 (by decide) (aw_vret rfl dX4_copyFrom_157 h)))))))))))))))))))))))))))))))))))))))))))))))))))))))))))))))))))))))))))))))))))))
theorem ct_X4_copyFrom {Γ : Gam} {b q : Nat} (hb : isSt b) (hq : isSt q) (hne : b ≠ q) {g : Mem} : Runs Γ 1 yX4_copyFrom iX4_copyFrom [.inr b, .inr q] g (fun _ g' => (∀ k, ¬ (b ≤ k ∧ k < b + 10) → g' k = g k) ∧ ∀ s, WF s → CS q s g → CS b s g') := by
  have hd := isSt_apart hb hq hne
  refine Runs.intro (by decide) rfl (Nat.le_of_ble_eq_true rfl) (sg_X4_copyFrom_0 b hb q hq ⟨fun k hk => ?_, fun s hw hc => ?_⟩)
  · simp (disch := omega) only [cpy_ne, up_ne]
  · have h1 := hw.n
    have h2 := hw.nr
    have h3 := hw.nq
    obtain ⟨c1, c2, c3, c4, c5, c6, c7, c8, c9, c10⟩ := hc
    unfold CS
    simp (disch := omega) only [cpy_ne, up_ne, cpy_same, up_same, pk_us, pk_un]
    refine ⟨c1, fun i hi => ?_, fun i hi hk => ?_, fun i hi => ?_, fun i hi => ?_, c6, fun i hi => ?_, c8, fun i hi => ?_, fun i hi => ?_⟩
    · rw [sb_cpy0 (by omega)]; exact c2 i hi
    · rw [sb_cpy0 (by omega)]; exact c3 i hi hk
    · rw [sb_cpy0 (by omega)]; exact c4 i hi
    · rw [sb_cpy0 (by omega)]; exact c5 i hi
    · rw [sb_cpy0 (by omega), sb_cpy0 (by omega)]; exact c7 i hi
    · rw [sb_cpy0 (by omega), sb_cpy0 (by omega)]; exact c9 i hi
    · rw [sb_cpy0 (by omega)]; exact c10 i hi
/-- the saved states, the oldest first: in the reference -/
def HM (hs : List St) (g : Mem) : Prop := hs.length ≤ 5 ∧ g 26 4 = nI hs.length ∧ ∀ i t, hs[i]? = some t → ∀ j, j < 81 → g 29 (81 * i + j) = nI (t j)
def push (hs : List St) (s : St) : List St := if hs.length = 5 then hs.tail ++ [s] else hs ++ [s]
theorem push_len {hs : List St} {s : St} (h : hs.length ≤ 5) : (push hs s).length = if hs.length = 5 then 5 else hs.length + 1 := by
  unfold push
  split
  · rename_i e; simp [e]
  · simp
theorem push_at {hs : List St} {s t : St} {i : Nat} (hl : hs.length ≤ 5) (h : (push hs s)[i]? = some t) : (hs.length = 5 ∧ ((i < 4 ∧ hs[i + 1]? = some t) ∨ (i = 4 ∧ t = s))) ∨ (hs.length < 5 ∧ ((i < hs.length ∧ hs[i]? = some t) ∨ (i = hs.length ∧ t = s))) := by
  unfold push at h
  split at h
  · rename_i e
    left
    refine ⟨e, ?_⟩
    have el : hs.tail.length = 4 := by simp [e]
    rcases Nat.lt_or_ge i 4 with h1 | h1
    · rw [List.getElem?_append_left (by omega), List.getElem?_tail] at h
      exact Or.inl ⟨h1, h⟩
    · rw [List.getElem?_append_right (by omega), el] at h
      have h2 : i - 4 < 1 := (List.getElem?_eq_some_iff.mp h).1
      have h3 : i = 4 := by omega
      subst h3
      simp at h
      exact Or.inr ⟨rfl, h.symm⟩
  · right
    refine ⟨by omega, ?_⟩
    rcases Nat.lt_or_ge i hs.length with h1 | h1
    · rw [List.getElem?_append_left h1] at h
      exact Or.inl ⟨h1, h⟩
    · rw [List.getElem?_append_right h1] at h
      have h2 : i - hs.length < 1 := (List.getElem?_eq_some_iff.mp h).1
      have h3 : i = hs.length := by omega
      subst h3
      simp at h
      exact Or.inr ⟨rfl, h.symm⟩
theorem n81 (d i : Nat) : 81 * nI d + nI i = nI (81 * d + i) := by rw [show (81 : Int32) = nI 81 from rfl, pk_mul, nI_add]
theorem n81' (i : Nat) : 81 + nI i = nI (81 + i) := nI_add 81 i
theorem sg_X7_save_0 {Γ : Gam} {P : Int32 → Mem → Prop}  {g : Mem} (h : ((¬ (g 26 4) = 5 → AW Γ 1 iX7_save P 50 [some (.inr 26), some (.inl 0)] [] g) ∧ ((g 26 4) = 5 → AW Γ 1 iX7_save P 10 [some (.inr 26), some (.inl 0)] [] g))) : AW Γ 1 iX7_save P 0 [some (.inr 26)] [] g :=
  (aw_aload_n dX7_save_0 rfl (aw_geti fkX7_105 fa_26_4 dX7_save_1 (aw_iconst 5 dX7_save_4 (by decide) (aw_icmp_ne 48 dX7_save_5 (by decide) (fun c1 => (aw_iconst 0 dX7_save_48 (by decide) (aw_istore_n [some (.inr 26), some (.inl 0)] dX7_save_49 (by decide) rfl (aw_mask [true, true] rfl (h.1 c1))))) (fun c1 => (aw_iconst 0 dX7_save_8 (by decide) (aw_istore_n [some (.inr 26), some (.inl 0)] dX7_save_9 (by decide) rfl (aw_mask [true, true] rfl (h.2 c1)))))))))
theorem sg_X7_save_50 {Γ : Gam} {P : Int32 → Mem → Prop}  (a1 : Int32) {g : Mem} (h : ((81 ≤ a1 → P 0 (up g 26 4 ((g 26 4) + 1))) ∧ (¬ (81 ≤ a1) → (vp_in a1 81 ∧ (vp_in ((81 * (g 26 4)) + a1) 405 ∧ AW Γ 1 iX7_save P 50 [some (.inr 26), some (.inl (a1 + 1))] [] (up g 29 ((81 * (g 26 4)) + a1).toNatClampNeg (g 27 a1.toNatClampNeg))))))) : AW Γ 1 iX7_save P 50 [some (.inr 26), some (.inl a1)] [] g :=
  (aw_iload_n dX7_save_50 rfl (aw_bipush 81 dX7_save_51 (by decide) (aw_icmp_ge 82 dX7_save_53 (by decide) (fun c1 => (aw_aload_n dX7_save_82 rfl (aw_dup dX7_save_83 (aw_geti fkX7_105 fa_26_4 dX7_save_84 (aw_iconst 1 dX7_save_87 (by decide) (aw_iadd dX7_save_88 (aw_putf fpX7_105 fa_26_4 (vp_nar_int _) rfl dX7_save_89 (aw_vret rfl dX7_save_92 (h.1 c1))))))))) (fun c1 => (aw_aload_n dX7_save_56 rfl (aw_getr 29 fkX7_16 fa_26_3 dX7_save_57 (aw_bipush 81 dX7_save_60 (by decide) (aw_aload_n dX7_save_62 rfl (aw_geti fkX7_105 fa_26_4 dX7_save_63 (aw_imul dX7_save_66 (aw_iload_n dX7_save_67 rfl (aw_iadd dX7_save_68 (aw_aload_n dX7_save_69 rfl (aw_getr 27 fkX7_7 fa_26_1 dX7_save_70 (aw_iload_n dX7_save_73 rfl (aw_iald aa_27 dX7_save_74 (h.2 c1).1 (aw_iast aa_29 dX7_save_75 (h.2 c1).2.1 (aw_iinc (a1 + 1) [some (.inr 26), some (.inl (a1 + 1))] dX7_save_76 rfl (by rfl) (by decide) rfl (aw_goto 50 dX7_save_79 (by decide) (aw_mask [true, true] rfl (h.2 c1).2.2))))))))))))))))))))
theorem sg_X7_save_10 {Γ : Gam} {P : Int32 → Mem → Prop}  (a1 : Int32) {g : Mem} (h : ((324 ≤ a1 → AW Γ 1 iX7_save P 50 [some (.inr 26), some (.inl 0)] [] (up g 26 4 ((g 26 4) - 1))) ∧ (¬ (324 ≤ a1) → (vp_in (81 + a1) 405 ∧ (vp_in a1 405 ∧ AW Γ 1 iX7_save P 10 [some (.inr 26), some (.inl (a1 + 1))] [] (up g 29 a1.toNatClampNeg (g 29 (81 + a1).toNatClampNeg))))))) : AW Γ 1 iX7_save P 10 [some (.inr 26), some (.inl a1)] [] g :=
  (aw_iload_n dX7_save_10 rfl (aw_sipush 324 dX7_save_11 (by decide) (aw_icmp_ge 38 dX7_save_14 (by decide) (fun c1 => (aw_aload_n dX7_save_38 rfl (aw_dup dX7_save_39 (aw_geti fkX7_105 fa_26_4 dX7_save_40 (aw_iconst 1 dX7_save_43 (by decide) (aw_isub dX7_save_44 (aw_putf fpX7_105 fa_26_4 (vp_nar_int _) rfl dX7_save_45 (aw_iconst 0 dX7_save_48 (by decide) (aw_istore_n [some (.inr 26), some (.inl 0)] dX7_save_49 (by decide) rfl (aw_mask [true, true] rfl (h.1 c1))))))))))) (fun c1 => (aw_aload_n dX7_save_17 rfl (aw_getr 29 fkX7_16 fa_26_3 dX7_save_18 (aw_iload_n dX7_save_21 rfl (aw_aload_n dX7_save_22 rfl (aw_getr 29 fkX7_16 fa_26_3 dX7_save_23 (aw_bipush 81 dX7_save_26 (by decide) (aw_iload_n dX7_save_28 rfl (aw_iadd dX7_save_29 (aw_iald aa_29 dX7_save_30 (h.2 c1).1 (aw_iast aa_29 dX7_save_31 (h.2 c1).2.1 (aw_iinc (a1 + 1) [some (.inr 26), some (.inl (a1 + 1))] dX7_save_32 rfl (by rfl) (by decide) rfl (aw_goto 10 dX7_save_35 (by decide) (aw_mask [true, true] rfl (h.2 c1).2.2)))))))))))))))))
theorem lp_X7_save50 {Γ : Gam} {P : Int32 → Mem → Prop} {g : Mem} {d : Nat} (hd : d ≤ 4) (hg : g 26 4 = nI d) (hP : ∀ g', (∀ k, k ≠ 29 → g' k = g k) → (∀ j, j < 81 → g' 29 (81 * d + j) = g 27 j) → (∀ j, j < 81 * d → g' 29 j = g 29 j) → P 0 (up g' 26 4 (nI (d + 1)))) : ∀ n i g', i + n = 81 → (∀ k, k ≠ 29 → g' k = g k) → (∀ j, j < i → g' 29 (81 * d + j) = g 27 j) → (∀ j, j < 81 * d → g' 29 j = g 29 j) → AW Γ 1 iX7_save P 50 [some (.inr 26), some (.inl (nI i))] [] g' := by
  intro n
  induction n with
  | zero =>
    intro i g' hi h1 h2 h3
    have e : i = 81 := by omega
    subst e
    refine sg_X7_save_50 _ ⟨fun _ => ?_, fun c => absurd (nI_le (Nat.le_refl 81) (by decide)) c⟩
    rw [h1 26 (by decide), hg, nI_1]
    exact hP g' h1 h2 h3
  | succ n ih =>
    intro i g' hi h1 h2 h3
    refine sg_X7_save_50 _ ⟨fun c => absurd c (nI_ge (show i < 81 by omega) (by decide)), fun _ => ?_⟩
    rw [h1 26 (by decide), hg, n81, nI_1, ix_nI (by omega), ix_nI (by omega), h1 27 (by decide)]
    refine ⟨vp_nI (by omega) (by decide), vp_nI (by omega) (by decide), ih (i + 1) _ (by omega) (fun k hk => by rw [up_ne hk, h1 k hk]) (fun j hj => ?_) (fun j hj => ?_)⟩
    · rcases Nat.lt_or_ge j i with q | q
      · rw [up_nx (by omega)]; exact h2 j q
      · have e : j = i := by omega
        subst e
        rw [up_at]
    · rw [up_nx (by omega)]; exact h3 j hj
theorem lp_X7_save10 {Γ : Gam} {P : Int32 → Mem → Prop} {g : Mem} (hP : ∀ g', (∀ k, k ≠ 29 → g' k = g k) → (∀ j, j < 324 → g' 29 j = g 29 (81 + j)) → AW Γ 1 iX7_save P 50 [some (.inr 26), some (.inl 0)] [] (up g' 26 4 (g 26 4 - 1))) : ∀ n i g', i + n = 324 → (∀ k, k ≠ 29 → g' k = g k) → (∀ j, j < i → g' 29 j = g 29 (81 + j)) → (∀ j, i ≤ j → g' 29 j = g 29 j) → AW Γ 1 iX7_save P 10 [some (.inr 26), some (.inl (nI i))] [] g' := by
  intro n
  induction n with
  | zero =>
    intro i g' hi h1 h2 h3
    have e : i = 324 := by omega
    subst e
    refine sg_X7_save_10 _ ⟨fun _ => ?_, fun c => absurd (nI_le (Nat.le_refl 324) (by decide)) c⟩
    rw [h1 26 (by decide)]
    exact hP g' h1 h2
  | succ n ih =>
    intro i g' hi h1 h2 h3
    refine sg_X7_save_10 _ ⟨fun c => absurd c (nI_ge (show i < 324 by omega) (by decide)), fun _ => ?_⟩
    rw [n81', nI_1, ix_nI (by omega), ix_nI (by omega)]
    refine ⟨vp_nI (by omega) (by decide), vp_nI (by omega) (by decide), ih (i + 1) _ (by omega) (fun k hk => by rw [up_ne hk, h1 k hk]) (fun j hj => ?_) (fun j hj => ?_)⟩
    · rcases Nat.lt_or_ge j i with q | q
      · rw [up_nx (by omega)]; exact h2 j q
      · have e : j = i := by omega
        subst e
        rw [up_at, h3 _ (by omega)]
    · rw [up_nx (by omega)]; exact h3 j (by omega)
theorem ct_X7_save {Γ : Gam} {s : St} {hs : List St} {g : Mem} (h : MA 27 s g) (hh : HM hs g) : Runs Γ 1 yX7_save iX7_save [.inr 26] g (fun _ g' => HM (push hs s) g' ∧ (∀ k, k ≠ 26 → k ≠ 29 → g' k = g k) ∧ ∀ j, j ≠ 4 → g' 26 j = g 26 j) := by
  obtain ⟨hl, hd, hv⟩ := hh
  refine Runs.intro (by decide) rfl (Nat.le_of_ble_eq_true rfl) (sg_X7_save_0 ⟨fun c => ?_, fun c => ?_⟩)
  · have hne : hs.length ≠ 5 := fun e => c (by rw [hd, e]; rfl)
    refine lp_X7_save50 (g := g) (d := hs.length) (by omega) hd (fun g' h1 h2 h3 => ?_) 81 0 g rfl (fun _ _ => rfl) (fun j hj => by omega) (fun _ _ => rfl)
    refine ⟨⟨by rw [push_len hl, if_neg hne]; omega, ?_, fun i t hi j hj => ?_⟩, fun k k1 k2 => by rw [up_ne k1, h1 k k2], fun j hj => by rw [up_nx hj, h1 26 (by decide)]⟩
    · rw [up_at, push_len hl, if_neg hne]
    · rw [up_ne (by decide)]
      rcases push_at hl hi with ⟨e, -⟩ | ⟨-, ⟨i1, i2⟩ | ⟨i1, i2⟩⟩
      · exact absurd e hne
      · rw [h3 _ (by omega)]; exact hv i t i2 j hj
      · subst i1; subst i2
        rw [h2 j hj]; exact h j hj
  · have he : hs.length = 5 := by
      rw [hd, show (5 : Int32) = nI 5 from rfl, nI_eq (by omega) (by decide)] at c
      exact c
    refine lp_X7_save10 (g := g) (fun g1 h1 h2 => ?_) 324 0 g rfl (fun _ _ => rfl) (fun j hj => by omega) (fun _ _ => rfl)
    have e4 : g 26 4 - 1 = nI 4 := by rw [hd, he]; rfl
    rw [e4]
    refine lp_X7_save50 (g := up g1 26 4 (nI 4)) (d := 4) (by omega) (up_at _ _ _ _) (fun g' h3 h4 h5 => ?_) 81 0 _ rfl (fun _ _ => rfl) (fun j hj => by omega) (fun _ _ => rfl)
    refine ⟨⟨by rw [push_len hl, if_pos he]; omega, ?_, fun i t hi j hj => ?_⟩, fun k k1 k2 => by rw [up_ne k1, h3 k k2, up_ne k1, h1 k k2], fun j hj => by rw [up_nx hj, h3 26 (by decide), up_nx hj, h1 26 (by decide)]⟩
    · rw [up_at, push_len hl, if_pos he]
    · rw [up_ne (by decide)]
      rcases push_at hl hi with ⟨-, ⟨i1, i2⟩ | ⟨i1, i2⟩⟩ | ⟨e, -⟩
      · rw [h5 _ (by omega), up_ne (by decide), h2 _ (by omega), show 81 + (81 * i + j) = 81 * (i + 1) + j by omega]
        exact hv (i + 1) t i2 j hj
      · subst i1; subst i2
        rw [h4 j hj, up_ne (by decide), h1 27 (by decide)]; exact h j hj
      · omega
/-- the rows of the initial references, without those whose bit is set in rem -/
def rowsK (s : St) (rem : Nat) : Nat → Nat → Nat
  | 0, _ => 0
  | k + 1, i => if rem.testBit k then rowsK s rem k i else if i = s (42 + 2 * k) then rowsK s rem k i ||| 2 ^ (s (42 + 2 * k + 1)) else rowsK s rem k i
theorem rowsK_lt {s : St} (hw : WF s) (rem : Nat) (i : Nat) : ∀ k, k ≤ s 41 → rowsK s rem k i < 1024
  | 0, _ => by rw [rowsK]; decide
  | k + 1, h => by
    have ih := rowsK_lt hw rem i k (by omega)
    rw [rowsK]
    split
    · exact ih
    · split
      · have := (hw.rf (k := k) (by omega)).2.2
        have hn := hw.n
        exact Nat.or_lt_two_pow (n := 10) ih (Nat.pow_lt_pow_of_lt (by decide) (by omega))
      · exact ih
/-- the run begun again -/
def beg (s : St) : St := fun j => if 71 ≤ j ∧ j < 81 then rowsK s 0 (s 41) (j - 71) else s j
theorem beg_lo {s : St} {j : Nat} (h : j < 71) : beg s j = s j := by simp [beg]; omega
theorem beg_run {s : St} {i : Nat} (h : i < 10) : beg s (71 + i) = rowsK s 0 (s 41) i := by
  unfold beg
  rw [if_pos (by omega), show 71 + i - 71 = i by omega]
theorem fa_or' (a b : Nat) : nI a ||| nI b = nI (a ||| b) := by
  apply Int32.toBitVec_inj.mp
  show (nI a).toBitVec ||| (nI b).toBitVec = (nI (a ||| b)).toBitVec
  apply BitVec.eq_of_toNat_eq
  simp only [nI, Int32.ofNat, BitVec.toNat_or]
  simp [Int32.toBitVec, Nat.or_mod_two_pow]
theorem sg_X4_fillInitialRows_0 {Γ : Gam} {P : Int32 → Mem → Prop} (b : Nat) (hb : isSt b) (q : Nat) (hq : aAt q = some (0, 10)) (a2 : Int32) {g : Mem} (h : AW Γ 2 iX4_fillInitialRows P 7 [some (.inr b), some (.inr q), some (.inl a2), some (.inl 0)] [] (fil g q 10 0)) : AW Γ 2 iX4_fillInitialRows P 0 [some (.inr b), some (.inr q), some (.inl a2)] [] g :=
  (aw_aload_n dX4_fillInitialRows_0 rfl (aw_iconst 0 dX4_fillInitialRows_1 (by decide) (aw_callSv lkX4_49 ckJ7_fill_53178 (d := 1) (by decide) [.inr q, .inl 0] rfl rfl (Nat.le_of_ble_eq_true rfl) dX4_fillInitialRows_2 rfl (Runs.fn (ct_J7_fill hq (by decide)) (aw_iconst 0 dX4_fillInitialRows_5 (by decide) (aw_istore_n [some (.inr b), some (.inr q), some (.inl a2), some (.inl 0)] dX4_fillInitialRows_6 (by decide) rfl (aw_mask [true, true, true, true] rfl h)))))))
theorem sg_X4_fillInitialRows_7 {Γ : Gam} {P : Int32 → Mem → Prop} (b : Nat) (hb : isSt b) (q : Nat) (hq : aAt q = some (0, 10)) (a2 a3 : Int32) {g : Mem} (h : (((g b 5) ≤ a3 → P 0 g) ∧ (¬ ((g b 5) ≤ a3) → ((¬ (bi (hasB a2 a3)) = 0 → AW Γ 2 iX4_fillInitialRows P 7 [some (.inr b), some (.inr q), some (.inl a2), some (.inl (a3 + 1))] [] g) ∧ ((bi (hasB a2 a3)) = 0 → (vp_in a3 10 ∧ (vp_in (g (b + 5) a3.toNatClampNeg) 10 ∧ (vp_in a3 10 ∧ (vp_in (g (b + 5) a3.toNatClampNeg) 10 ∧ AW Γ 2 iX4_fillInitialRows P 7 [some (.inr b), some (.inr q), some (.inl a2), some (.inl (a3 + 1))] [] (up g q (g (b + 5) a3.toNatClampNeg).toNatClampNeg ((g q (g (b + 5) a3.toNatClampNeg).toNatClampNeg) ||| (1 <<< ((g (b + 6) a3.toNatClampNeg) &&& 31))))))))))))) : AW Γ 2 iX4_fillInitialRows P 7 [some (.inr b), some (.inr q), some (.inl a2), some (.inl a3)] [] g :=
  (aw_iload_n dX4_fillInitialRows_7 rfl (aw_aload_n dX4_fillInitialRows_8 rfl (aw_geti fkX4_28 (fs_5 hb) dX4_fillInitialRows_9 (aw_icmp_ge 49 dX4_fillInitialRows_12 (by decide) (fun c1 => (aw_vret rfl dX4_fillInitialRows_49 (h.1 c1))) (fun c1 => (aw_iload_n dX4_fillInitialRows_15 rfl (aw_iload_n dX4_fillInitialRows_16 rfl (aw_callSNi nkX4_72 ckX6_contains (d := 1) (by decide) [.inl a2, .inl a3] rfl rfl (Nat.le_of_ble_eq_true rfl) dX4_fillInitialRows_17 rfl (Runs.fn ct_X6_contains (aw_if_ne 43 dX4_fillInitialRows_20 (by decide) (fun c2 => (aw_iinc (a3 + 1) [some (.inr b), some (.inr q), some (.inl a2), some (.inl (a3 + 1))] dX4_fillInitialRows_43 rfl (by rfl) (by decide) rfl (aw_goto 7 dX4_fillInitialRows_46 (by decide) (aw_mask [true, true, true, true] rfl ((h.2 c1).1 c2))))) (fun c2 => (aw_aload_n dX4_fillInitialRows_23 rfl (aw_aload_n dX4_fillInitialRows_24 rfl (aw_getr (b + 5) fkX4_31 (fs_6 hb) dX4_fillInitialRows_25 (aw_iload_n dX4_fillInitialRows_28 rfl (aw_iald (as_5 hb) dX4_fillInitialRows_29 ((h.2 c1).2 c2).1 (aw_dup2 dX4_fillInitialRows_30 (aw_iald hq dX4_fillInitialRows_31 ((h.2 c1).2 c2).2.1 (aw_aload_n dX4_fillInitialRows_32 rfl (aw_getr (b + 6) fkX4_34 (fs_7 hb) dX4_fillInitialRows_33 (aw_iload_n dX4_fillInitialRows_36 rfl (aw_iald (as_6 hb) dX4_fillInitialRows_37 ((h.2 c1).2 c2).2.2.1 (aw_callSNi nkX4_75 ckX6_bit (d := 1) (by decide) [.inl (g (b + 6) a3.toNatClampNeg)] rfl rfl (Nat.le_of_ble_eq_true rfl) dX4_fillInitialRows_38 rfl (Runs.fn ct_X6_bit (aw_ior dX4_fillInitialRows_41 (aw_iast hq dX4_fillInitialRows_42 ((h.2 c1).2 c2).2.2.2.1 (aw_iinc (a3 + 1) [some (.inr b), some (.inr q), some (.inl a2), some (.inl (a3 + 1))] dX4_fillInitialRows_43 rfl (by rfl) (by decide) rfl (aw_goto 7 dX4_fillInitialRows_46 (by decide) (aw_mask [true, true, true, true] rfl ((h.2 c1).2 c2).2.2.2.2)))))))))))))))))))))))))))))
theorem lp_X4_fill {Γ : Gam} {P : Int32 → Mem → Prop} {b q : Nat} (hb : isSt b) (hq : aAt q = some (0, 10)) (h1 : q ≠ b) (h2 : q ≠ b + 5) (h3 : q ≠ b + 6) {s : St} {g : Mem} (h : CW b s g) {rem : Nat} (hrem : rem < 2 ^ 31) (hP : ∀ g', (∀ k, k ≠ q → g' k = g k) → (∀ i, i < 10 → g' q i = nI (rowsK s rem (s 41) i)) → P 0 g') : ∀ n k g', k + n = s 41 → (∀ k, k ≠ q → g' k = g k) → (∀ i, i < 10 → g' q i = nI (rowsK s rem k i)) → AW Γ 2 iX4_fillInitialRows P 7 [some (.inr b), some (.inr q), some (.inl (nI rem)), some (.inl (nI k))] [] g' := by
  intro n
  have hr := h.2.nr
  induction n with
  | zero =>
    intro k g' hk e1 e2
    refine sg_X4_fillInitialRows_7 b hb q hq _ _ ?_
    rw [e1 b (Ne.symm h1), h.1.2.2.2.2.2.1]
    refine ⟨fun _ => hP g' e1 (by rw [show s 41 = k by omega]; exact e2), fun c => absurd (nI_le (by omega) (by omega)) c⟩
  | succ n ih =>
    intro k g' hk e1 e2
    obtain ⟨c1, c2⟩ := h.1.2.2.2.2.2.2.1 k (by omega)
    obtain ⟨r1, r2, r3⟩ := h.2.rf (k := k) (by omega)
    have hn := h.2.n
    refine sg_X4_fillInitialRows_7 b hb q hq _ _ ?_
    rw [e1 b (Ne.symm h1), h.1.2.2.2.2.2.1, e1 (b + 5) (Ne.symm h2), e1 (b + 6) (Ne.symm h3), nI_1, ix_nI (n := k) (by omega), c1, c2, ix_nI (by omega), hasB_nI hrem (by omega), bit_nI (by omega), e2 _ (by omega), fa_or']
    refine ⟨fun c => absurd c (nI_ge (by omega) (by omega)), fun _ => ⟨fun c => ?_, fun c => ?_⟩⟩
    · rw [bi_ne0] at c
      exact ih (k + 1) g' (by omega) e1 (fun i hi => by rw [rowsK, if_pos c]; exact e2 i hi)
    · rw [bi_eq0] at c
      refine ⟨vp_nI (by omega) (by decide), vp_nI (by omega) (by decide), vp_nI (by omega) (by decide), vp_nI (by omega) (by decide), ih (k + 1) _ (by omega) (fun j hj => by rw [up_ne hj, e1 j hj]) (fun i hi => ?_)⟩
      rw [rowsK, if_neg (by rw [c]; decide)]
      by_cases hi2 : i = s (42 + 2 * k)
      · subst hi2
        rw [up_at, if_pos rfl]
      · rw [up_nx hi2, if_neg hi2]; exact e2 i hi
theorem ct_X4_fillInitialRows {Γ : Gam} {b q : Nat} (hb : isSt b) (hq : aAt q = some (0, 10)) (h1 : q ≠ b) (h2 : q ≠ b + 5) (h3 : q ≠ b + 6) {s : St} {g : Mem} (h : CW b s g) {rem : Nat} (hrem : rem < 2 ^ 31) : Runs Γ 2 yX4_fillInitialRows iX4_fillInitialRows [.inr b, .inr q, .inl (nI rem)] g (fun _ g' => (∀ k, k ≠ q → g' k = g k) ∧ ∀ i, i < 10 → g' q i = nI (rowsK s rem (s 41) i)) :=
  Runs.intro (by decide) rfl (Nat.le_of_ble_eq_true rfl) (sg_X4_fillInitialRows_0 b hb q hq _ (lp_X4_fill hb hq h1 h2 h3 h hrem (fun g' a b => ⟨a, b⟩) (s 41) 0 _ (by omega) (fun k hk => fil_ne hk) (fun i hi => by rw [fil_at hi]; rfl)))
theorem sg_X4_startRun_0 {Γ : Gam} {P : Int32 → Mem → Prop} (b : Nat) (hb : isSt b) {g : Mem} (h : (Runs Γ 2 yX4_fillInitialRows iX4_fillInitialRows [.inr b, .inr (b + 9), .inl 0] g (fun r1 g1 => P 0 g1))) : AW Γ 3 iX4_startRun P 0 [some (.inr b)] [] g :=
  (aw_aload_n dX4_startRun_0 rfl (aw_aload_n dX4_startRun_1 rfl (aw_getr (b + 9) fkX4_46 (fs_11 hb) dX4_startRun_2 (aw_iconst 0 dX4_startRun_5 (by decide) (aw_callVv lkX4_79 ckX4_fillInitialRows (cs_ hb) rfl (d := 2) (by decide) [.inr (b + 9), .inl 0] rfl rfl (Nat.le_of_ble_eq_true rfl) dX4_startRun_6 rfl (Runs.mono h (fun r1 g1 h1_ => (aw_vret rfl dX4_startRun_9 h1_))))))))
theorem ct_X4_startRun {Γ : Gam} {b : Nat} (hb : isSt b) {s : St} {g : Mem} (h : CW b s g) : Runs Γ 3 yX4_startRun iX4_startRun [.inr b] g (fun _ g' => (∀ k, k ≠ b + 9 → g' k = g k) ∧ CS b (beg s) g') := by
  refine Runs.intro (by decide) rfl (Nat.le_of_ble_eq_true rfl) (sg_X4_startRun_0 b hb ((ct_X4_fillInitialRows hb (as_9 hb) (by omega) (by omega) (by omega) h (rem := 0) (by decide)).mono (fun r g' q => ⟨q.1, ?_⟩)))
  obtain ⟨q1, q2⟩ := q
  obtain ⟨c1, c2, c3, c4, c5, c6, c7, c8, c9, c10⟩ := h.1
  have hn := h.2.n
  have hr := h.2.nr
  have hq := h.2.nq
  unfold CS
  rw [q1 b (by omega), q1 (b + 1) (by omega), q1 (b + 2) (by omega), q1 (b + 3) (by omega), q1 (b + 4) (by omega), q1 (b + 5) (by omega), q1 (b + 6) (by omega), q1 (b + 7) (by omega), q1 (b + 8) (by omega), beg_lo (show 0 < 71 by decide), beg_lo (show 41 < 71 by decide), beg_lo (show 62 < 71 by decide)]
  refine ⟨c1, fun i hi => ?_, fun i hi hk => ?_, fun i hi => ?_, fun i hi => ?_, c6, fun i hi => ?_, c8, fun i hi => ?_, fun i hi => ?_⟩
  · rw [beg_lo (by omega)]; exact c2 i hi
  · rw [beg_lo (by omega)] at hk ⊢; exact c3 i hi hk
  · rw [beg_lo (by omega), beg_lo (by omega), beg_lo (by omega)]; exact c4 i hi
  · rw [beg_lo (by omega)]; exact c5 i hi
  · rw [beg_lo (by omega), beg_lo (by omega)]; exact c7 i hi
  · rw [beg_lo (by omega), beg_lo (by omega)]; exact c9 i hi
  · rw [beg_run hi]; exact q2 i hi
end
section
/-! What the analysis is, in numbers. -/
def msk (p : Nat → Bool) : Nat → Nat
  | 0 => 0
  | k + 1 => msk p k ||| (if p k then 2 ^ k else 0)
theorem msk_bit (p : Nat → Bool) : ∀ k j, (msk p k).testBit j = (decide (j < k) && p j)
  | 0, j => by simp [msk]
  | k + 1, j => by
    rw [msk, Nat.testBit_or, msk_bit p k j]
    by_cases hp : p k
    · rw [if_pos hp, Nat.testBit_two_pow]
      by_cases hj : k = j
      · subst hj; simp [hp]
      · by_cases h2 : j < k
        · simp [h2, hj, show j < k + 1 by omega]
        · simp [h2, hj, show ¬ j < k + 1 by omega]
    · rw [if_neg hp, Nat.zero_testBit]
      by_cases hj : j = k
      · subst hj; simp [hp]
      · by_cases h2 : j < k
        · simp [h2, show j < k + 1 by omega]
        · simp [h2, show ¬ j < k + 1 by omega]
theorem lt_of_bits {w k : Nat} (h : ∀ j, k ≤ j → w.testBit j = false) : w < 2 ^ k := by
  apply Nat.lt_pow_two_of_testBit
  intro j hj
  exact h j hj
theorem msk_lt (p : Nat → Bool) (k : Nat) : msk p k < 2 ^ k := lt_of_bits (fun j hj => by rw [msk_bit, decide_eq_false (by omega)]; rfl)
theorem msk_lt' (p : Nat → Bool) {k : Nat} (hk : k ≤ 10) : msk p k < 1024 := Nat.lt_of_lt_of_le (msk_lt p k) (Nat.pow_le_pow_right (by decide) hk)
theorem msk_eq {p : Nat → Bool} {k w : Nat} (h : ∀ j, w.testBit j = (decide (j < k) && p j)) : w = msk p k := Nat.eq_of_testBit_eq (fun j => by rw [h, msk_bit])
theorem msk_cong {p q : Nat → Bool} {k : Nat} (h : ∀ j, j < k → p j = q j) : msk p k = msk q k := by
  apply msk_eq
  intro j
  rw [msk_bit]
  by_cases hj : j < k
  · rw [h j hj]
  · simp [hj]
theorem fa_and' (a b : Nat) : nI a &&& nI b = nI (a &&& b) := by
  apply Int32.toBitVec_inj.mp
  show (nI a).toBitVec &&& (nI b).toBitVec = (nI (a &&& b)).toBitVec
  apply BitVec.eq_of_toNat_eq
  simp only [nI, Int32.ofNat, BitVec.toNat_and]
  simp [Int32.toBitVec, Nat.and_mod_two_pow]
theorem and_lt {a b : Nat} (h : a < 1024) : a &&& b < 1024 := Nat.lt_of_le_of_lt Nat.and_le_left h
theorem or_lt {a b : Nat} (h : a < 1024) (h2 : b < 1024) : a ||| b < 1024 := Nat.or_lt_two_pow (n := 10) h h2
theorem bit_lt {k : Nat} (h : k < 10) : 2 ^ k < 1024 := Nat.pow_lt_pow_of_lt (a := 2) (n := k) (m := 10) (by decide) h
theorem lowB_nI {w : Nat} (h : w < 1024) : lowB (nI w) = fI (-1) (fun k => w.testBit k) 10 := by
  have e : ff (fun k => hasB (nI w) (nI k)) 0 10 = ff (fun k => w.testBit k) 0 10 := ff_cong 10 0 (fun j _ h2 => hasB_nI (by omega) (by omega))
  unfold lowB fI
  rw [e]
theorem ff_mono_n {p : Nat → Bool} {n m : Nat} (hnm : n ≤ m) (h : ∀ j, n ≤ j → p j = false) : (ff p 0 n < n ∧ ff p 0 m = ff p 0 n) ∨ (ff p 0 n = n ∧ ff p 0 m = m) := by
  have b1 := ff_bounds p n 0
  have b2 := ff_bounds p m 0
  rcases Nat.lt_or_ge (ff p 0 n) n with q | q
  · left
    exact ⟨q, ff_eq (Nat.zero_le _) (by omega) (ff_yes p n 0 (by omega)) (fun k _ hk => ff_no p n 0 k (Nat.zero_le _) hk)⟩
  · right
    refine ⟨by omega, ?_⟩
    rcases Nat.lt_or_ge (ff p 0 m) m with q2 | q2
    · have h1 := ff_yes p m 0 (by omega)
      rcases Nat.lt_or_ge (ff p 0 m) n with q3 | q3
      · have h2 := ff_no p n 0 (ff p 0 m) (Nat.zero_le _) (by omega)
        rw [h1] at h2; cases h2
      · rw [h _ q3] at h1; cases h1
    · omega
theorem fI_n {x : Int32} {p : Nat → Bool} {n m : Nat} (hnm : n ≤ m) (h : ∀ j, n ≤ j → p j = false) : fI x p m = fI x p n := by
  unfold fI
  rcases ff_mono_n hnm h with ⟨h1, h2⟩ | ⟨h1, h2⟩
  · rw [h2, if_pos h1, if_pos (by omega)]
  · rw [h1, h2, if_neg (Nat.lt_irrefl _), if_neg (Nat.lt_irrefl _)]
abbrev Rel : Type := Nat → Nat → Bool
/-- object x is an agent with the flag f -/
def dz (s : St) (x f : Nat) : Bool := decide (x < s 0) && (decide (s (1 + x) = 0) && decide (¬ s (11 + x) &&& f = 0))
/-- object x is of kind k -/
def kz (s : St) (x k : Nat) : Bool := decide (x < s 0) && decide (s (1 + x) = k)
def hz (s : St) (x : Nat) : Bool := kz s x 0 || kz s x 3
def q1 (s : St) (E : Rel) (a b x : Nat) : Bool := dz s x 1 && (E x a && (decide (x = b) || E x b))
def q2 (s : St) (E : Rel) (a b y : Nat) : Bool := dz s y 8 && (E a y && E y b)
def qk (s : St) (E : Rel) (a br k : Nat) : Bool := kz s k 2 && (decide (s (11 + k) = br) && E a k)
def q3 (s : St) (E : Rel) (a b k : Nat) : Bool := kz s k 1 && (decide (s (21 + k) = b) && (E a k && decide (ff (qk s E a (s (11 + k))) 0 (s 0) < s 0)))
def q4 (s : St) (E : Rel) (a b k : Nat) : Bool := kz s k 3 && (decide (s (11 + k) = b) && E a k)
def qu (s : St) (E : Rel) (f x : Nat) : Bool := dz s x 2 && E x f
def q5 (s : St) (E : Rel) (a b k : Nat) : Bool := kz s k 3 && (decide (s (11 + k) = a) && (E k b && decide (ff (qu s E k) 0 (s 0) < s 0)))
/-- x is a partner for rule r and the reference from a to b -/
def qq (s : St) (E : Rel) (r a b x : Nat) : Bool := if r = 1 then dz s a 4 && q1 s E a b x else if r = 2 then dz s a 2 && q2 s E a b x else if r = 3 then dz s a 2 && q3 s E a b x else if r = 4 then dz s a 2 && q4 s E a b x else q5 s E a b x
/-- the partner for rule r: the first; s 0 if there is none -/
def pt (s : St) (E : Rel) (r a b : Nat) : Nat := ff (qq s E r a b) 0 (s 0)
/-- the rule: the first of 1 .. 5 that has a partner; 6 if there is none -/
def rl (s : St) (E : Rel) (a b : Nat) : Nat := ff (fun r => decide (pt s E r a b < s 0)) 1 5
def der (s : St) (E : Rel) (a b : Nat) : Bool := decide (rl s E a b < 6)
def nxt (s : St) (E : Rel) : Rel := fun a b => E a b || (decide (a < s 0) && (decide (b < s 0) && der s E a b))
def ini (s : St) (rem : Nat) : Rel := fun a b => (rowsK s rem (s 41) a).testBit b
def it (s : St) (rem : Nat) : Nat → Rel
  | 0 => ini s rem
  | r + 1 => nxt s (it s rem r)
/-- round r + 1 finds nothing -/
def stb (s : St) (rem r : Nat) : Bool := decide (∀ a, a < s 0 → ∀ b, b < s 0 → it s rem (r + 1) a b = it s rem r a b)
/-- the last round that finds anything -/
def LR (s : St) (rem : Nat) : Nat := ff (stb s rem) 0 101
/-- the round of a reference; LR + 1 if it isn't found -/
def rnd (s : St) (rem a b : Nat) : Nat := ff (fun r => it s rem r a b) 0 (LR s rem + 1)
def rdI (s : St) (a b : Nat) : Int32 := fI (-9) (fun r => it s 0 r a b) (LR s 0 + 1)
/-- found: in some round -/
def fnd (s : St) (rem : Nat) : Rel := it s rem (LR s rem)
/-- the relation behind the round of a reference: what was found in earlier rounds -/
def bef (s : St) (a b : Nat) : Rel := it s 0 (rnd s 0 a b - 1)
def ruI (s : St) (a b : Nat) : Int32 := if fnd s 0 a b then (if rnd s 0 a b = 0 then 0 else nI (rl s (bef s a b) a b)) else -9
def paI (s : St) (a b : Nat) : Int32 := if fnd s 0 a b then (if rnd s 0 a b = 0 then -9 else nI (pt s (bef s a b) (rl s (bef s a b) a b) a b)) else -9
/-- the premises, as 10 a + b; 100 for none -/
def pm1 (s : St) (a b : Nat) : Nat :=
  let E := bef s a b
  let r := rl s E a b
  let x := pt s E r a b
  if r = 1 then 10 * x + a else if r = 2 then 10 * a + x else if r = 3 then 10 * a + x else if r = 4 then 10 * a + x else 10 * x + b
def pm2 (s : St) (a b : Nat) : Nat :=
  let E := bef s a b
  let r := rl s E a b
  let x := pt s E r a b
  if r = 1 then (if x = b then 100 else 10 * x + b) else if r = 2 then 10 * x + b else if r = 3 then 10 * a + ff (qk s E a (s (11 + x))) 0 (s 0) else if r = 4 then 100 else 10 * ff (qu s E x) 0 (s 0) + x
/-- closed under the rules 1 to 5; under rule 6 -/
def cl5 (s : St) (E : Rel) : Prop := ∀ a b, a < s 0 → b < s 0 → der s E a b = true → E a b = true
def cl6 (s : St) (E : Rel) : Prop := ∀ x y a b, x < s 0 → y < s 0 → a < s 0 → b < s 0 → E x y = true → hz s a = true → s (31 + a) = s (31 + x) → s (31 + b) = s (31 + y) → E a b = true
/-- the least relation that has the initial references and is closed under rules 1 to 6 (its pairs below the count) -/
def lf6 (s : St) (E : Rel) : Prop := (∀ a b, ini s 0 a b = true → E a b = true) ∧ cl5 s E ∧ cl6 s E ∧ ∀ F : Rel, (∀ a b, ini s 0 a b = true → F a b = true) → cl5 s F → cl6 s F → ∀ a b, a < s 0 → b < s 0 → E a b = true → F a b = true
def RolesOk (s : St) (g : Mem) : Prop := g 6 0 = nI (s 0) ∧ g 6 1 = nI (msk (fun x => dz s x 1) (s 0)) ∧ g 6 2 = nI (msk (fun x => dz s x 2) (s 0)) ∧ g 6 3 = nI (msk (fun x => dz s x 4) (s 0)) ∧ g 6 4 = nI (msk (fun x => dz s x 8) (s 0)) ∧ g 6 5 = nI (msk (fun x => kz s x 3) (s 0)) ∧ g 6 6 = nI (msk (hz s) (s 0)) ∧
  ∀ x, x < s 0 → ((s (1 + x) = 1 → g 7 x = nI (s (21 + x))) ∧ (s (1 + x) = 3 → g 7 x = nI (s (11 + x)))) ∧ g 8 x = nI (msk (fun k => kz s x 1 && (kz s k 2 && decide (s (11 + k) = s (11 + x)))) (s 0)) ∧ g 9 x = nI (msk (fun k => kz s k 1 && decide (s (21 + k) = x)) (s 0)) ∧ g 10 x = nI (msk (fun k => kz s k 3 && decide (s (11 + k) = x)) (s 0)) ∧ g 11 x = nI (msk (fun k => decide (s (31 + k) = s (31 + x))) (s 0))
def AnaOk (s : St) (g : Mem) : Prop := (∀ a, a < s 0 → g 13 a = nI (msk (fnd s 0 a) (s 0))) ∧ (∀ a b, a < s 0 → b < s 0 → g 15 (10 * a + b) = rdI s a b ∧ g 16 (10 * a + b) = ruI s a b ∧ g 17 (10 * a + b) = paI s a b ∧ (fnd s 0 a b = true → rnd s 0 a b ≠ 0 → g 18 (10 * a + b) = nI (pm1 s a b) ∧ (pm2 s a b = 100 → g 19 (10 * a + b) = -1) ∧ (pm2 s a b ≠ 100 → g 19 (10 * a + b) = nI (pm2 s a b)))) ∧ g 12 7 = nI (LR s 0)
def CoaOk (s : St) (g : Mem) : Prop := ∃ E : Rel, lf6 s E ∧ ∀ a, a < s 0 → g 23 a = nI (msk (E a) (s 0))
def AnOk (s : St) (g : Mem) : Prop := RolesOk s g ∧ AnaOk s g ∧ CoaOk s g
/-- the analysis is out of date, or it is that of s -/
def AC (s : St) (g : Mem) : Prop := g 0 8 = 0 ∨ (g 0 8 = 1 ∧ AnOk s g)
theorem AnOk.ext {s : St} {g g' : Mem} (h : AnOk s g) (he : ∀ k, 6 ≤ k → k < 24 → g' k = g k) : AnOk s g' := by
  unfold AnOk RolesOk AnaOk CoaOk at h ⊢
  rw [he 6 (by omega) (by omega), he 7 (by omega) (by omega), he 8 (by omega) (by omega), he 9 (by omega) (by omega), he 10 (by omega) (by omega), he 11 (by omega) (by omega), he 12 (by omega) (by omega), he 13 (by omega) (by omega), he 15 (by omega) (by omega), he 16 (by omega) (by omega), he 17 (by omega) (by omega), he 18 (by omega) (by omega), he 19 (by omega) (by omega), he 23 (by omega) (by omega)]
  exact h
theorem AC.ext {s : St} {g g' : Mem} (h : AC s g) (h0 : g' 0 = g 0) (he : ∀ k, 6 ≤ k → k < 24 → g' k = g k) : AC s g' := by
  unfold AC at h ⊢
  rw [h0]
  exact h.imp id (fun q => ⟨q.1, q.2.ext he⟩)
/-! The whole state: s, the saved states, the text's length and characters. -/
abbrev Ab : Type := St × List St × Nat × (Nat → Nat)
def HC (hs : List St) (g : Mem) : Prop := hs.length ≤ 5 ∧ g 4 2 = nI hs.length ∧ ∃ nx, nx < 5 ∧ g 4 1 = nI nx ∧ ∀ i t, hs[i]? = some t → CS (54 + 10 * ((nx + 5 - hs.length + i) % 5)) t g
def TC (L : Nat) (c : Nat → Nat) (g : Mem) : Prop := g 1 1 = nI L ∧ ∀ j, j < L → g 2 j = nI (c j)
def TM (L : Nat) (c : Nat → Nat) (g : Mem) : Prop := g 26 6 = nI L ∧ ∀ j, j < L → g 30 j = nI (c j)
def WA (a : Ab) : Prop := WF a.1 ∧ (∀ t, t ∈ a.2.1 → WF t) ∧ a.2.1.length ≤ 5 ∧ a.2.2.1 ≤ 160 ∧ ∀ j, j < a.2.2.1 → a.2.2.2 j ≤ 255
def MI (a : Ab) (g : Mem) : Prop := MA 27 a.1 g ∧ HM a.2.1 g ∧ TM a.2.2.1 a.2.2.2 g
def CI (a : Ab) (g : Mem) : Prop := CS 34 a.1 g ∧ HC a.2.1 g ∧ TC a.2.2.1 a.2.2.2 g ∧ AC a.1 g
/-- a call of the class leaves the reference's cells, and the other way round -/
def frC (g g' : Mem) : Prop := ∀ k, 26 ≤ k → k < 34 → g' k = g k
def frM (g g' : Mem) : Prop := ∀ k, (k < 26 ∨ 34 ≤ k) → g' k = g k
theorem HC.ext {hs : List St} {g g' : Mem} (h : HC hs g) (h4 : g' 4 = g 4) (he : ∀ k, 54 ≤ k → g' k = g k) : HC hs g' := by
  obtain ⟨h1, h2, nx, h3, h5, h6⟩ := h
  exact ⟨h1, by rw [h4]; exact h2, nx, h3, by rw [h4]; exact h5, fun i t hi => (h6 i t hi).ext (fun k k1 _ => he k (by omega))⟩
theorem CI.ext {a : Ab} {g g' : Mem} (h : CI a g) (he : frM g g') : CI a g' := by
  obtain ⟨h1, h2, h3, h4⟩ := h
  refine ⟨h1.ext (fun k k1 k2 => he k (by omega)), h2.ext (he 4 (by omega)) (fun k hk => he k (by omega)), ?_, h4.ext (he 0 (by omega)) (fun k k1 k2 => he k (by omega))⟩
  unfold TC at h3 ⊢
  rw [he 1 (by omega), he 2 (by omega)]
  exact h3
theorem MI.ext {a : Ab} {g g' : Mem} (h : MI a g) (he : frC g g') : MI a g' := by
  unfold MI MA HM TM at h ⊢
  rw [he 26 (by omega) (by omega), he 27 (by omega) (by omega), he 29 (by omega) (by omega), he 30 (by omega) (by omega)]
  exact h
end
section
/-! Saving and undoing in the class; a run's beginning in the reference. -/
theorem slot_at : ∀ n, n < 5 → ([54, 64, 74, 84, 94] : List Nat).getD n 0 = 54 + 10 * n := by decide
theorem isSt_slot {n : Nat} (h : n < 5) : isSt (54 + 10 * n) := by unfold isSt; omega
theorem CI.s {a : Ab} {g : Mem} (h : CI a g) (hw : WA a) : CW 34 a.1 g := ⟨h.1, hw.1⟩
theorem sg_X2_save_0 {Γ : Gam} {P : Int32 → Mem → Prop}  {g : Mem} (h : (vp_in (g 4 1) 5 ∧ (cAt (([54, 64, 74, 84, 94] : List Nat).getD (g 4 1).toNatClampNeg 0) = some 4 ∧ (Runs Γ 1 yX4_copyFrom iX4_copyFrom [.inr (([54, 64, 74, 84, 94] : List Nat).getD (g 4 1).toNatClampNeg 0), .inr 34] g (fun r1 g1 => P 0 (up (up g1 4 1 (((g1 4 1) + 1) - ((g1 4 1) + 1) / 5 * 5)) 4 2 (if 5 < ((g1 4 2) + 1) then 5 else ((g1 4 2) + 1)))))))) : AW Γ 2 iX2_save P 0 [some (.inr 4), some (.inr 34)] [] g :=
  (aw_aload_n dX2_save_0 rfl (aw_getr 5 fkX2_11 fa_4_0 dX2_save_1 (aw_aload_n dX2_save_4 rfl (aw_geti fkX2_17 fa_4_1 dX2_save_5 (aw_aald ra_5 dX2_save_8 h.1 (aw_aload_n dX2_save_9 rfl (aw_callVv lkX2_25 ckX4_copyFrom h.2.1 rfl (d := 1) (by decide) [.inr 34] rfl rfl (Nat.le_of_ble_eq_true rfl) dX2_save_10 rfl (Runs.mono h.2.2 (fun r1 g1 h1_ => (aw_aload_n dX2_save_13 rfl (aw_aload_n dX2_save_14 rfl (aw_geti fkX2_17 fa_4_1 dX2_save_15 (aw_iconst 1 dX2_save_18 (by decide) (aw_iadd dX2_save_19 (aw_iconst 5 dX2_save_20 (by decide) (aw_irem dX2_save_21 (by decide) (aw_putf fpX2_17 fa_4_1 (vp_nar_int _) rfl dX2_save_22 (aw_aload_n dX2_save_25 rfl (aw_aload_n dX2_save_26 rfl (aw_geti fkX2_21 fa_4_2 dX2_save_27 (aw_iconst 1 dX2_save_30 (by decide) (aw_iadd dX2_save_31 (aw_iconst 5 dX2_save_32 (by decide) (aw_mmin wmnX2_29 (by decide) (Nat.le_of_ble_eq_true rfl) dX2_save_33 (aw_putf fpX2_21 fa_4_2 (vp_nar_int _) rfl dX2_save_36 (aw_vret rfl dX2_save_39 h1_))))))))))))))))))))))))))
theorem ct_X2_save {Γ : Gam} {s : St} {hs : List St} {g : Mem} (hc : CW 34 s g) (hh : HC hs g) (hw : ∀ t, t ∈ hs → WF t) : Runs Γ 2 yX2_save iX2_save [.inr 4, .inr 34] g (fun _ g' => HC (push hs s) g' ∧ ∀ k, k ≠ 4 → k < 54 → g' k = g k) := by
  obtain ⟨hl, h2, nx, hnx, h1, hv⟩ := hh
  have hst := isSt_slot hnx
  refine Runs.intro (by decide) rfl (Nat.le_of_ble_eq_true rfl) (sg_X2_save_0 ?_)
  rw [h1, ix_nI (by omega), slot_at nx hnx]
  refine ⟨vp_nI hnx (by decide), cs_ hst, (ct_X4_copyFrom hst isSt_34 (by omega)).mono (fun r g1 q => ?_)⟩
  obtain ⟨q1, q2⟩ := q
  have e4 : g1 4 = g 4 := q1 4 (by omega)
  rw [e4, h1, h2, nI_1, nI_1]
  have er : nI (nx + 1) - nI (nx + 1) / 5 * 5 = nI ((nx + 1) % 5) := pk_rem (a := nx + 1) (d := 5) (by omega) (by decide) (by decide)
  have em : (if (5 : Int32) < nI (hs.length + 1) then 5 else nI (hs.length + 1)) = nI (push hs s).length := by
    rw [push_len hl]
    by_cases h5 : hs.length = 5
    · rw [if_pos h5, h5]; rfl
    · rw [if_neg h5, if_neg (by rw [show (5 : Int32) = nI 5 from rfl, nI_ltI (by decide) (by omega)]; omega)]
  rw [er, em]
  have hpl := push_len (s := s) hl
  refine ⟨⟨?_, up_at _ _ _ _, (nx + 1) % 5, by omega, ?_, fun i t hi => ?_⟩, fun k k1 k2 => ?_⟩
  · rw [hpl]; split <;> omega
  · rw [up_nx (by decide), up_at]
  · have fr : ∀ k, 54 ≤ k → (up (up g1 4 1 (nI ((nx + 1) % 5))) 4 2 (nI (push hs s).length)) k = g1 k := fun k hk => by rw [up_ne (by omega), up_ne (by omega)]
    have old : ∀ j t, hs[j]? = some t → (nx + 5 - hs.length + j) % 5 ≠ nx → CS (54 + 10 * ((nx + 5 - hs.length + j) % 5)) t (up (up g1 4 1 (nI ((nx + 1) % 5))) 4 2 (nI (push hs s).length)) := by
      intro j t hj hne
      refine (hv j t hj).ext (fun k k1 k2 => ?_)
      rw [fr k (by omega), q1 k (by omega)]
    have new : CS (54 + 10 * nx) s (up (up g1 4 1 (nI ((nx + 1) % 5))) 4 2 (nI (push hs s).length)) := (q2 s hc.2 hc.1).ext (fun k k1 k2 => fr k (by omega))
    generalize up (up g1 4 1 (nI ((nx + 1) % 5))) 4 2 (nI (push hs s).length) = G at old new ⊢
    rw [hpl]
    rcases push_at hl hi with ⟨e, ⟨i1, i2⟩ | ⟨i1, i2⟩⟩ | ⟨e, ⟨i1, i2⟩ | ⟨i1, i2⟩⟩
    · have := old (i + 1) t i2 (by omega)
      rw [if_pos e]
      rw [show (nx + 5 - hs.length + (i + 1)) % 5 = ((nx + 1) % 5 + 5 - 5 + i) % 5 by omega] at this
      exact this
    · subst i1; subst i2
      rw [if_pos e, show ((nx + 1) % 5 + 5 - 5 + 4) % 5 = nx by omega]
      exact new
    · have := old i t i2 (by omega)
      rw [if_neg (by omega)]
      rw [show (nx + 5 - hs.length + i) % 5 = ((nx + 1) % 5 + 5 - (hs.length + 1) + i) % 5 by omega] at this
      exact this
    · subst i1; subst i2
      rw [if_neg (by omega), show ((nx + 1) % 5 + 5 - (hs.length + 1) + hs.length) % 5 = nx by omega]
      exact new
  · rw [up_ne k1, up_ne k1, q1 k (by omega)]
theorem sg_X6_saveState_0 {Γ : Gam} {P : Int32 → Mem → Prop}  {g : Mem} (h : (Runs Γ 2 yX2_save iX2_save [.inr 4, .inr 34] g (fun r1 g1 => P 0 (up g1 0 8 0)))) : AW Γ 3 iX6_saveState P 0 [some (.inr 0)] [] g :=
  (aw_aload_n dX6_saveState_0 rfl (aw_getr 4 fkX6_29 fa_0_3 dX6_saveState_1 (aw_aload_n dX6_saveState_4 rfl (aw_getr 34 fkX6_19 fa_0_1 dX6_saveState_5 (aw_callVv lkX6_214 ckX2_save ca_4 rfl (d := 2) (by decide) [.inr 34] rfl rfl (Nat.le_of_ble_eq_true rfl) dX6_saveState_8 rfl (Runs.mono h (fun r1 g1 h1_ => (aw_aload_n dX6_saveState_11 rfl (aw_iconst 0 dX6_saveState_12 (by decide) (aw_putf fpX6_57 fa_0_8 (by decide) (by decide) dX6_saveState_13 (aw_vret rfl dX6_saveState_16 h1_)))))))))))
theorem ct_X6_saveState {Γ : Gam} {a : Ab} {g : Mem} (h : CI a g) (hw : WA a) : Runs Γ 3 yX6_saveState iX6_saveState [.inr 0] g (fun _ g' => HC (push a.2.1 a.1) g' ∧ g' 0 8 = 0 ∧ ∀ k, k ≠ 0 → k ≠ 4 → k < 54 → g' k = g k) := by
  refine Runs.intro (by decide) rfl (Nat.le_of_ble_eq_true rfl) (sg_X6_saveState_0 ((ct_X2_save (h.s hw) h.2.1 hw.2.1).mono (fun r g1 q => ?_)))
  refine ⟨q.1.ext (up_ne (by decide)) (fun k hk => up_ne (by omega)), up_at _ _ _ _, fun k k1 k2 k3 => ?_⟩
  rw [up_ne k1, q.2 k k2 k3]
/-- what the class's state is behind a save and a change of s -/
theorem CI.saved {a : Ab} {s' : St} {g g' : Mem} (h : CI a g) (hs : CS 34 s' g') (hh : HC (push a.2.1 a.1) g') (h0 : g' 0 8 = 0) (ht : ∀ k, 1 ≤ k → k ≤ 2 → g' k = g k) : CI (s', push a.2.1 a.1, a.2.2.1, a.2.2.2) g' := by
  refine ⟨hs, hh, ?_, Or.inl h0⟩
  have h3 := h.2.2.1
  unfold TC at h3 ⊢
  rw [ht 1 (by decide) (by decide), ht 2 (by decide) (by decide)]
  exact h3
theorem frC_of {g g' : Mem} (h : ∀ k, k ≠ 0 → k ≠ 4 → k < 34 → g' k = g k) : frC g g' := fun k k1 k2 => h k (by omega) (by omega) (by omega)
theorem sg_X2_restoreInto_0 {Γ : Gam} {P : Int32 → Mem → Prop}  {g : Mem} (h : ((0 < (g 4 2) → (vp_in ((((g 4 1) + 5) - 1) - (((g 4 1) + 5) - 1) / 5 * 5) 5 ∧ (Runs Γ 1 yX4_copyFrom iX4_copyFrom [.inr 34, .inr (([54, 64, 74, 84, 94] : List Nat).getD ((((g 4 1) + 5) - 1) - (((g 4 1) + 5) - 1) / 5 * 5).toNatClampNeg 0)] (up (up g 4 1 ((((g 4 1) + 5) - 1) - (((g 4 1) + 5) - 1) / 5 * 5)) 4 2 ((g 4 2) - 1)) (fun r1 g1 => P 0 g1)))) ∧ (¬ (0 < (g 4 2)) → P 0 g))) : AW Γ 2 iX2_restoreInto P 0 [some (.inr 4), some (.inr 34)] [] g :=
  (aw_aload_n dX2_restoreInto_0 rfl (aw_geti fkX2_21 fa_4_2 dX2_restoreInto_1 (aw_if_gt 8 dX2_restoreInto_4 (by decide) (fun c1 => (aw_aload_n dX2_restoreInto_8 rfl (aw_aload_n dX2_restoreInto_9 rfl (aw_geti fkX2_17 fa_4_1 dX2_restoreInto_10 (aw_iconst 5 dX2_restoreInto_13 (by decide) (aw_iadd dX2_restoreInto_14 (aw_iconst 1 dX2_restoreInto_15 (by decide) (aw_isub dX2_restoreInto_16 (aw_iconst 5 dX2_restoreInto_17 (by decide) (aw_irem dX2_restoreInto_18 (by decide) (aw_putf fpX2_17 fa_4_1 (vp_nar_int _) rfl dX2_restoreInto_19 (aw_aload_n dX2_restoreInto_22 rfl (aw_dup dX2_restoreInto_23 (aw_geti fkX2_21 fa_4_2 dX2_restoreInto_24 (aw_iconst 1 dX2_restoreInto_27 (by decide) (aw_isub dX2_restoreInto_28 (aw_putf fpX2_21 fa_4_2 (vp_nar_int _) rfl dX2_restoreInto_29 (aw_aload_n dX2_restoreInto_32 rfl (aw_aload_n dX2_restoreInto_33 rfl (aw_getr 5 fkX2_11 fa_4_0 dX2_restoreInto_34 (aw_aload_n dX2_restoreInto_37 rfl (aw_geti fkX2_17 fa_4_1 dX2_restoreInto_38 (aw_aald ra_5 dX2_restoreInto_41 (h.1 c1).1 (aw_callVv lkX2_25 ckX4_copyFrom (cs_ isSt_34) rfl (d := 1) (by decide) [.inr (([54, 64, 74, 84, 94] : List Nat).getD ((((g 4 1) + 5) - 1) - (((g 4 1) + 5) - 1) / 5 * 5).toNatClampNeg 0)] rfl rfl (Nat.le_of_ble_eq_true rfl) dX2_restoreInto_42 rfl (Runs.mono (h.1 c1).2 (fun r1 g1 h1_ => (aw_vret rfl dX2_restoreInto_45 h1_))))))))))))))))))))))))))) (fun c1 => (aw_vret rfl dX2_restoreInto_7 (h.2 c1))))))
theorem ct_X2_restoreInto {Γ : Gam} {hs : List St} {t0 : St} {g : Mem} (hh : HC (hs ++ [t0]) g) (hw : WF t0) : Runs Γ 2 yX2_restoreInto iX2_restoreInto [.inr 4, .inr 34] g (fun _ g' => HC hs g' ∧ CS 34 t0 g' ∧ ∀ k, k ≠ 4 → k < 34 → g' k = g k) := by
  obtain ⟨hl, h2, nx, hnx, h1, hv⟩ := hh
  rw [List.length_append, List.length_singleton] at hl h2 hv
  have hlt : (nx + 4) % 5 < 5 := Nat.mod_lt _ (by decide)
  have hst := isSt_slot hlt
  have er : nI nx + 5 - 1 - (nI nx + 5 - 1) / 5 * 5 = nI ((nx + 4) % 5) := by
    have e1 : nI nx + 5 - 1 = nI (nx + 4) := by
      rw [show (5 : Int32) = nI 5 from rfl, nI_add]
      exact nI_pred (nx + 4)
    rw [e1]
    exact pk_rem (a := nx + 4) (d := 5) (by omega) (by decide) (by decide)
  refine Runs.intro (by decide) rfl (Nat.le_of_ble_eq_true rfl) (sg_X2_restoreInto_0 ?_)
  rw [h2, h1, er, ix_nI (by omega), slot_at _ hlt, nI_pred]
  refine ⟨fun _ => ⟨vp_nI hlt (by decide), (ct_X4_copyFrom isSt_34 hst (by omega)).mono (fun r g1 q => ?_)⟩, fun c => absurd (nI_lt (a := 0) (by omega) (by omega)) c⟩
  obtain ⟨q1, q2⟩ := q
  have hlast := hv hs.length t0 (by simp)
  rw [show (nx + 5 - (hs.length + 1) + hs.length) % 5 = (nx + 4) % 5 by omega] at hlast
  refine ⟨⟨by omega, ?_, (nx + 4) % 5, hlt, ?_, fun i t hi => ?_⟩, q2 t0 hw (hlast.ext (fun k k1 k2 => by rw [up_ne (by omega), up_ne (by omega)])), fun k k1 k2 => ?_⟩
  · rw [q1 4 (by omega), up_at]
  · rw [q1 4 (by omega), up_nx (by decide), up_at]
  · have hil : i < hs.length := (List.getElem?_eq_some_iff.mp hi).1
    have h5 := hv i t (by rw [List.getElem?_append_left hil]; exact hi)
    rw [show (nx + 5 - (hs.length + 1) + i) % 5 = ((nx + 4) % 5 + 5 - hs.length + i) % 5 by omega] at h5
    refine h5.ext (fun k k1 k2 => ?_)
    rw [q1 k (by omega), up_ne (by omega), up_ne (by omega)]
  · rw [q1 k (by omega), up_ne k1, up_ne k1]
/-! the reference's run -/
theorem sg_X7_beginRun_0 {Γ : Gam} {P : Int32 → Mem → Prop}  {g : Mem} (h : AW Γ 1 iX7_beginRun P 2 [some (.inr 26), some (.inl 0)] [] g) : AW Γ 1 iX7_beginRun P 0 [some (.inr 26)] [] g :=
  (aw_iconst 0 dX7_beginRun_0 (by decide) (aw_istore_n [some (.inr 26), some (.inl 0)] dX7_beginRun_1 (by decide) rfl (aw_mask [true, true] rfl h)))
theorem sg_X7_beginRun_2 {Γ : Gam} {P : Int32 → Mem → Prop}  (a1 : Int32) {g : Mem} (h : ((10 ≤ a1 → AW Γ 1 iX7_beginRun P 26 [some (.inr 26), some (.inl 0)] [] g) ∧ (¬ (10 ≤ a1) → (vp_in (71 + a1) 81 ∧ AW Γ 1 iX7_beginRun P 2 [some (.inr 26), some (.inl (a1 + 1))] [] (up g 27 (71 + a1).toNatClampNeg 0))))) : AW Γ 1 iX7_beginRun P 2 [some (.inr 26), some (.inl a1)] [] g :=
  (aw_iload_n dX7_beginRun_2 rfl (aw_bipush 10 dX7_beginRun_3 (by decide) (aw_icmp_ge 24 dX7_beginRun_5 (by decide) (fun c1 => (aw_iconst 0 dX7_beginRun_24 (by decide) (aw_istore_n [some (.inr 26), some (.inl 0)] dX7_beginRun_25 (by decide) rfl (aw_mask [true, true] rfl (h.1 c1))))) (fun c1 => (aw_aload_n dX7_beginRun_8 rfl (aw_getr 27 fkX7_7 fa_26_1 dX7_beginRun_9 (aw_bipush 71 dX7_beginRun_12 (by decide) (aw_iload_n dX7_beginRun_14 rfl (aw_iadd dX7_beginRun_15 (aw_iconst 0 dX7_beginRun_16 (by decide) (aw_iast aa_27 dX7_beginRun_17 (h.2 c1).1 (aw_iinc (a1 + 1) [some (.inr 26), some (.inl (a1 + 1))] dX7_beginRun_18 rfl (by rfl) (by decide) rfl (aw_goto 2 dX7_beginRun_21 (by decide) (aw_mask [true, true] rfl (h.2 c1).2))))))))))))))
theorem sg_X7_beginRun_26 {Γ : Gam} {P : Int32 → Mem → Prop}  (a1 : Int32) {g : Mem} (h : (((g 27 41) ≤ a1 → P 0 g) ∧ (¬ ((g 27 41) ≤ a1) → (vp_in (42 + (2 * a1)) 81 ∧ (vp_in (71 + (g 27 (42 + (2 * a1)).toNatClampNeg)) 81 ∧ (vp_in ((42 + (2 * a1)) + 1) 81 ∧ (vp_in (71 + (g 27 (42 + (2 * a1)).toNatClampNeg)) 81 ∧ AW Γ 1 iX7_beginRun P 26 [some (.inr 26), some (.inl (a1 + 1))] [] (up g 27 (71 + (g 27 (42 + (2 * a1)).toNatClampNeg)).toNatClampNeg ((g 27 (71 + (g 27 (42 + (2 * a1)).toNatClampNeg)).toNatClampNeg) ||| (1 <<< ((g 27 ((42 + (2 * a1)) + 1).toNatClampNeg) &&& 31))))))))))) : AW Γ 1 iX7_beginRun P 26 [some (.inr 26), some (.inl a1)] [] g :=
  (aw_iload_n dX7_beginRun_26 rfl (aw_aload_n dX7_beginRun_27 rfl (aw_getr 27 fkX7_7 fa_26_1 dX7_beginRun_28 (aw_bipush 41 dX7_beginRun_31 (by decide) (aw_iald aa_27 dX7_beginRun_33 (vp_lit 41 (by decide) (by decide)) (aw_icmp_ge 80 dX7_beginRun_34 (by decide) (fun c1 => (aw_vret rfl dX7_beginRun_80 (h.1 c1))) (fun c1 => (aw_aload_n dX7_beginRun_37 rfl (aw_getr 27 fkX7_7 fa_26_1 dX7_beginRun_38 (aw_bipush 71 dX7_beginRun_41 (by decide) (aw_aload_n dX7_beginRun_43 rfl (aw_getr 27 fkX7_7 fa_26_1 dX7_beginRun_44 (aw_bipush 42 dX7_beginRun_47 (by decide) (aw_iconst 2 dX7_beginRun_49 (by decide) (aw_iload_n dX7_beginRun_50 rfl (aw_imul dX7_beginRun_51 (aw_iadd dX7_beginRun_52 (aw_iald aa_27 dX7_beginRun_53 (h.2 c1).1 (aw_iadd dX7_beginRun_54 (aw_dup2 dX7_beginRun_55 (aw_iald aa_27 dX7_beginRun_56 (h.2 c1).2.1 (aw_iconst 1 dX7_beginRun_57 (by decide) (aw_aload_n dX7_beginRun_58 rfl (aw_getr 27 fkX7_7 fa_26_1 dX7_beginRun_59 (aw_bipush 42 dX7_beginRun_62 (by decide) (aw_iconst 2 dX7_beginRun_64 (by decide) (aw_iload_n dX7_beginRun_65 rfl (aw_imul dX7_beginRun_66 (aw_iadd dX7_beginRun_67 (aw_iconst 1 dX7_beginRun_68 (by decide) (aw_iadd dX7_beginRun_69 (aw_iald aa_27 dX7_beginRun_70 (h.2 c1).2.2.1 (aw_ishl dX7_beginRun_71 (aw_ior dX7_beginRun_72 (aw_iast aa_27 dX7_beginRun_73 (h.2 c1).2.2.2.1 (aw_iinc (a1 + 1) [some (.inr 26), some (.inl (a1 + 1))] dX7_beginRun_74 rfl (by rfl) (by decide) rfl (aw_goto 26 dX7_beginRun_77 (by decide) (aw_mask [true, true] rfl (h.2 c1).2.2.2.2))))))))))))))))))))))))))))))))))))))
theorem lp_X7_beg26 {Γ : Gam} {P : Int32 → Mem → Prop} {s : St} (hw : WF s) {g : Mem} (hm : ∀ j, j < 71 → g 27 j = nI (s j)) (hP : ∀ g', (∀ k, k ≠ 27 → g' k = g k) → (∀ j, j < 71 → g' 27 j = nI (s j)) → (∀ i, i < 10 → g' 27 (71 + i) = nI (rowsK s 0 (s 41) i)) → P 0 g') : ∀ n k g', k + n = s 41 → (∀ k, k ≠ 27 → g' k = g k) → (∀ j, j < 71 → g' 27 j = nI (s j)) → (∀ i, i < 10 → g' 27 (71 + i) = nI (rowsK s 0 k i)) → AW Γ 1 iX7_beginRun P 26 [some (.inr 26), some (.inl (nI k))] [] g' := by
  intro n
  have hr := hw.nr
  induction n with
  | zero =>
    intro k g' hk e1 e2 e3
    refine sg_X7_beginRun_26 _ ?_
    rw [e2 41 (by decide)]
    refine ⟨fun _ => hP g' e1 e2 (by rw [show s 41 = k by omega]; exact e3), fun c => absurd (nI_le (by omega) (by omega)) c⟩
  | succ n ih =>
    intro k g' hk e1 e2 e3
    obtain ⟨r1, r2, r3⟩ := hw.rf (k := k) (by omega)
    have hn := hw.n
    refine sg_X7_beginRun_26 _ ?_
    rw [e2 41 (by decide), n42, nI_1, nI_1, ix_nI (n := 42 + 2 * k) (by omega), ix_nI (n := 42 + 2 * k + 1) (by omega), e2 (42 + 2 * k) (by omega), e2 (42 + 2 * k + 1) (by omega), n71, ix_nI (by omega), bit_nI (by omega), e3 _ (by omega), fa_or']
    refine ⟨fun c => absurd c (nI_ge (by omega) (by omega)), fun _ => ⟨vp_nI (by omega) (by decide), vp_nI (by omega) (by decide), vp_nI (by omega) (by decide), vp_nI (by omega) (by decide), ih (k + 1) _ (by omega) (fun j hj => by rw [up_ne hj, e1 j hj]) (fun j hj => by rw [up_nx (by omega)]; exact e2 j hj) (fun i hi => ?_)⟩⟩
    rw [rowsK, if_neg (by rw [Nat.zero_testBit]; decide)]
    by_cases hi2 : i = s (42 + 2 * k)
    · subst hi2
      rw [up_at, if_pos rfl]
    · rw [up_nx (by omega), if_neg hi2]; exact e3 i hi
theorem lp_X7_beg2 {Γ : Gam} {P : Int32 → Mem → Prop} {g : Mem} (hP : ∀ g', (∀ k, k ≠ 27 → g' k = g k) → (∀ j, j < 71 → g' 27 j = g 27 j) → (∀ i, i < 10 → g' 27 (71 + i) = 0) → AW Γ 1 iX7_beginRun P 26 [some (.inr 26), some (.inl 0)] [] g') : ∀ n k g', k + n = 10 → (∀ k, k ≠ 27 → g' k = g k) → (∀ j, j < 71 → g' 27 j = g 27 j) → (∀ i, i < k → g' 27 (71 + i) = 0) → AW Γ 1 iX7_beginRun P 2 [some (.inr 26), some (.inl (nI k))] [] g' := by
  intro n
  induction n with
  | zero =>
    intro k g' hk e1 e2 e3
    have e : k = 10 := by omega
    subst e
    exact sg_X7_beginRun_2 _ ⟨fun _ => hP g' e1 e2 e3, fun c => absurd (nI_le (Nat.le_refl 10) (by decide)) c⟩
  | succ n ih =>
    intro k g' hk e1 e2 e3
    refine sg_X7_beginRun_2 _ ⟨fun c => absurd c (nI_ge (show k < 10 by omega) (by decide)), fun _ => ?_⟩
    rw [n71, nI_1, ix_nI (by omega)]
    refine ⟨vp_nI (by omega) (by decide), ih (k + 1) _ (by omega) (fun j hj => by rw [up_ne hj, e1 j hj]) (fun j hj => by rw [up_nx (by omega)]; exact e2 j hj) (fun i hi => ?_)⟩
    rcases Nat.lt_or_ge i k with q | q
    · rw [up_nx (by omega)]; exact e3 i q
    · rw [show i = k by omega, up_at]
theorem ct_X7_beginRun {Γ : Gam} {s : St} (hw : WF s) {g : Mem} (h : ∀ j, j < 71 → g 27 j = nI (s j)) : Runs Γ 1 yX7_beginRun iX7_beginRun [.inr 26] g (fun _ g' => (∀ k, k ≠ 27 → g' k = g k) ∧ MA 27 (beg s) g') := by
  refine Runs.intro (by decide) rfl (Nat.le_of_ble_eq_true rfl) (sg_X7_beginRun_0 (lp_X7_beg2 (g := g) (fun g1 a1 a2 a3 => ?_) 10 0 g rfl (fun _ _ => rfl) (fun _ _ => rfl) (fun i hi => by omega)))
  refine lp_X7_beg26 hw (g := g1) (fun j hj => by rw [a2 j hj]; exact h j hj) (fun g' b1 b2 b3 => ⟨fun k hk => by rw [b1 k hk, a1 k hk], fun j hj => ?_⟩) (s 41) 0 g1 (by omega) (fun _ _ => rfl) (fun j hj => by rw [a2 j hj]; exact h j hj) (fun i hi => by rw [a3 i hi]; rfl)
  rcases Nat.lt_or_ge j 71 with q | q
  · rw [beg_lo q]; exact b2 j q
  · obtain ⟨i, rfl⟩ : ∃ i, j = 71 + i := ⟨j - 71, by omega⟩
    rw [beg_run (by omega)]; exact b3 i (by omega)
theorem MI.thr {a : Ab} {g : Mem} (h : MI a g) : MI a (up g 26 0 0) := by
  unfold MI MA HM TM at h ⊢
  rw [up_ne (show 27 ≠ 26 by decide), up_ne (show 29 ≠ 26 by decide), up_ne (show 30 ≠ 26 by decide), up_nx (show 4 ≠ 0 by decide), up_nx (show 6 ≠ 0 by decide)]
  exact h
theorem frM_thr (g : Mem) : frM g (up g 26 0 0) := fun k hk => up_ne (by omega)
theorem MI.s {a : Ab} {g : Mem} (h : MI a g) (hw : WA a) : MW 27 a.1 g := ⟨h.1, hw.1⟩
/-- behind a save of the reference -/
theorem ct_X7_save' {Γ : Gam} {a : Ab} {g : Mem} (h : MI a g) : Runs Γ 1 yX7_save iX7_save [.inr 26] g (fun _ g' => MI (a.1, push a.2.1 a.1, a.2.2.1, a.2.2.2) g' ∧ frM g g') := by
  refine (ct_X7_save h.1 h.2.1).mono (fun r g' q => ?_)
  obtain ⟨q1, q2, q3⟩ := q
  refine ⟨⟨?_, q1, ?_⟩, fun k hk => q2 k (by omega) (by omega)⟩
  · have h1 := h.1
    unfold MA at h1 ⊢
    rw [q2 27 (by decide) (by decide)]
    exact h1
  · have h1 := h.2.2
    unfold TM at h1 ⊢
    rw [q2 30 (by decide) (by decide), q3 6 (by decide)]
    exact h1
theorem MI.row {a : Ab} {s' : St} {g g' : Mem} (h : MI a g) (hm : MA 27 s' g') (he : ∀ k, k ≠ 27 → g' k = g k) : MI (s', a.2.1, a.2.2.1, a.2.2.2) g' := by
  unfold MI HM TM at h ⊢
  rw [he 26 (by decide), he 29 (by decide), he 30 (by decide)]
  exact ⟨hm, h.2⟩
theorem frM_row {g g' : Mem} (he : ∀ k, k ≠ 27 → g' k = g k) : frM g g' := fun k hk => he k (by omega)
theorem frM.trans {g1 g2 g3 : Mem} (h : frM g1 g2) (h' : frM g2 g3) : frM g1 g3 := fun k hk => by rw [h' k hk, h k hk]
end
