/-! Words of the tables, by their places. -/
theorem inG0 : ∀ w ∈ u_ws RX0 TX0 11, w ∈ GW := gw_all _ [275, 277, 279, 281, 283, 285, 287, 289, 291, 293, 295] (by decide +kernel) (by decide +kernel)
theorem inG1 : ∀ w ∈ u_ws RX1 TX1 2, w ∈ GW := gw_all _ [307, 309] (by decide +kernel) (by decide +kernel)
theorem inG2 : ∀ w ∈ u_ws RX2 TX2 3, w ∈ GW := gw_all _ [185, 187, 189] (by decide +kernel) (by decide +kernel)
theorem inG3 : ∀ w ∈ u_ws RX3 TX3 12, w ∈ GW := gw_all _ [228, 230, 232, 234, 236, 238, 240, 242, 244, 246, 248, 250] (by decide +kernel) (by decide +kernel)
theorem inG4 : ∀ w ∈ u_ws RX4 TX4 12, w ∈ GW := gw_all _ [147, 149, 151, 153, 155, 157, 159, 161, 163, 165, 167, 169] (by decide +kernel) (by decide +kernel)
theorem inG5 : ∀ w ∈ u_ws RX5 TX5 6, w ∈ GW := gw_all _ [102, 104, 106, 108, 110, 112] (by decide +kernel) (by decide +kernel)
theorem inG6 : ∀ w ∈ u_ws RX6 TX6 9, w ∈ GW := gw_all _ [321, 323, 325, 327, 329, 331, 333, 335, 337] (by decide +kernel) (by decide +kernel)
theorem inG7 : ∀ w ∈ u_ws RX7 TX7 17, w ∈ GW := gw_all _ [820, 822, 824, 826, 828, 830, 832, 834, 836, 838, 840, 842, 844, 846, 848, 850, 852] (by decide +kernel) (by decide +kernel)
abbrev iX0_countDerived : Mi := (cX0_countDerived, RX0, 5, (some .int))
theorem ckX0_countDerived : CkM RX0 yX0_countDerived iX0_countDerived 1 := ⟨gw_all _ [683, 684, 69, 685] (by decide +kernel) (by decide +kernel), by decide +kernel, by decide⟩
abbrev iX0_enqueue : Mi := (cX0_enqueue, RX0, 2, none)
theorem ckX0_enqueue : CkM RX0 yX0_enqueue iX0_enqueue 1 := ⟨gw_all _ [688, 23, 69, 689] (by decide +kernel) (by decide +kernel), by decide +kernel, by decide⟩
abbrev iX0_findAll : Mi := (cX0_findAll, RX0, 4, none)
theorem ckX0_findAll : CkM RX0 yX0_findAll iX0_findAll 2 := ⟨gw_all _ [592, 593, 69, 594] (by decide +kernel) (by decide +kernel), by decide +kernel, by decide⟩
abbrev iX0_findEndowment : Mi := (cX0_findEndowment, RX0, 7, (some .boolean))
theorem ckX0_findEndowment : CkM RX0 yX0_findEndowment iX0_findEndowment 3 := ⟨gw_all _ [632, 17, 69, 633] (by decide +kernel) (by decide +kernel), by decide +kernel, by decide⟩
abbrev iX0_findGift : Mi := (cX0_findGift, RX0, 6, (some .boolean))
theorem ckX0_findGift : CkM RX0 yX0_findGift iX0_findGift 3 := ⟨gw_all _ [612, 13, 69, 613] (by decide +kernel) (by decide +kernel), by decide +kernel, by decide⟩
abbrev iX0_findInitial : Mi := (cX0_findInitial, RX0, 4, none)
theorem ckX0_findInitial : CkM RX0 yX0_findInitial iX0_findInitial 1 := ⟨gw_all _ [599, 11, 69, 600] (by decide +kernel) (by decide +kernel), by decide +kernel, by decide⟩
abbrev iX0_findOpenBox : Mi := (cX0_findOpenBox, RX0, 6, (some .int))
theorem ckX0_findOpenBox : CkM RX0 yX0_findOpenBox iX0_findOpenBox 3 := ⟨gw_all _ [628, 16, 69, 629] (by decide +kernel) (by decide +kernel), by decide +kernel, by decide⟩
abbrev iX0_findRound : Mi := (cX0_findRound, RX0, 6, (some .boolean))
theorem ckX0_findRound : CkM RX0 yX0_findRound iX0_findRound 2 := ⟨gw_all _ [608, 12, 69, 609] (by decide +kernel) (by decide +kernel), by decide +kernel, by decide⟩
abbrev iX0_findTaking : Mi := (cX0_findTaking, RX0, 7, (some .boolean))
theorem ckX0_findTaking : CkM RX0 yX0_findTaking iX0_findTaking 3 := ⟨gw_all _ [624, 15, 69, 625] (by decide +kernel) (by decide +kernel), by decide +kernel, by decide⟩
abbrev iX0_init : Mi := (cX0_init, RX0, 1, none)
abbrev iX0_publish : Mi := (cX0_publish, RX0, 5, none)
theorem ckX0_publish : CkM RX0 yX0_publish iX0_publish 2 := ⟨gw_all _ [636, 18, 69, 637] (by decide +kernel) (by decide +kernel), by decide +kernel, by decide⟩
abbrev iX0_setCause : Mi := (cX0_setCause, RX0, 6, none)
theorem ckX0_setCause : CkM RX0 yX0_setCause iX0_setCause 5 := ⟨gw_all _ [620, 14, 69, 621] (by decide +kernel) (by decide +kernel), by decide +kernel, by decide⟩
abbrev iX1_applyRules : Mi := (cX1_applyRules, RX1, 6, none)
theorem ckX1_applyRules : CkM RX1 yX1_applyRules iX1_applyRules 2 := ⟨gw_all _ [649, 19, 70, 650] (by decide +kernel) (by decide +kernel), by decide +kernel, by decide⟩
abbrev iX1_close : Mi := (cX1_close, RX1, 5, none)
theorem ckX1_close : CkM RX1 yX1_close iX1_close 2 := ⟨gw_all _ [644, 645, 70, 646] (by decide +kernel) (by decide +kernel), by decide +kernel, by decide⟩
abbrev iX1_grant : Mi := (cX1_grant, RX1, 3, none)
theorem ckX1_grant : CkM RX1 yX1_grant iX1_grant 2 := ⟨gw_all _ [655, 20, 70, 656] (by decide +kernel) (by decide +kernel), by decide +kernel, by decide⟩
abbrev iX1_init : Mi := (cX1_init, RX1, 1, none)
abbrev iX1_merge : Mi := (cX1_merge, RX1, 6, none)
theorem ckX1_merge : CkM RX1 yX1_merge iX1_merge 2 := ⟨gw_all _ [663, 22, 70, 664] (by decide +kernel) (by decide +kernel), by decide +kernel, by decide⟩
abbrev iX1_start : Mi := (cX1_start, RX1, 3, none)
theorem ckX1_start : CkM RX1 yX1_start iX1_start 2 := ⟨gw_all _ [639, 640, 70, 641] (by decide +kernel) (by decide +kernel), by decide +kernel, by decide⟩
abbrev iX1_takeFrom : Mi := (cX1_takeFrom, RX1, 4, none)
theorem ckX1_takeFrom : CkM RX1 yX1_takeFrom iX1_takeFrom 3 := ⟨gw_all _ [659, 21, 70, 660] (by decide +kernel) (by decide +kernel), by decide +kernel, by decide⟩
abbrev iX2_init : Mi := (cX2_init, RX2, 2, none)
abbrev iX2_restoreInto : Mi := (cX2_restoreInto, RX2, 2, none)
theorem ckX2_restoreInto : CkM RX2 yX2_restoreInto iX2_restoreInto 1 := ⟨gw_all _ [790, 791, 67, 792] (by decide +kernel) (by decide +kernel), by decide +kernel, by decide⟩
abbrev iX2_save : Mi := (cX2_save, RX2, 2, none)
theorem ckX2_save : CkM RX2 yX2_save iX2_save 1 := ⟨gw_all _ [481, 482, 67, 483] (by decide +kernel) (by decide +kernel), by decide +kernel, by decide⟩
abbrev iX3_agentsWith : Mi := (cX3_agentsWith, RX3, 4, (some .int))
theorem ckX3_agentsWith : CkS yX3_agentsWith iX3_agentsWith 2 := ⟨gw_all _ [568, 68, 569] (by decide +kernel) (by decide +kernel), by decide +kernel, by decide⟩
abbrev iX3_init : Mi := (cX3_init, RX3, 1, none)
abbrev iX3_readFrom : Mi := (cX3_readFrom, RX3, 3, none)
theorem ckX3_readFrom : CkM RX3 yX3_readFrom iX3_readFrom 1 := ⟨gw_all _ [564, 565, 68, 566] (by decide +kernel) (by decide +kernel), by decide +kernel, by decide⟩
abbrev iX3_readObject : Mi := (cX3_readObject, RX3, 5, none)
theorem ckX3_readObject : CkM RX3 yX3_readObject iX3_readObject 2 := ⟨gw_all _ [579, 10, 68, 580] (by decide +kernel) (by decide +kernel), by decide +kernel, by decide⟩
abbrev iX4_addRequirement : Mi := (cX4_addRequirement, RX4, 3, none)
theorem ckX4_addRequirement : CkM RX4 yX4_addRequirement iX4_addRequirement 2 := ⟨gw_all _ [707, 708, 66, 709] (by decide +kernel) (by decide +kernel), by decide +kernel, by decide⟩
abbrev iX4_addToRun : Mi := (cX4_addToRun, RX4, 4, (some .int))
theorem ckX4_addToRun : CkM RX4 yX4_addToRun iX4_addToRun 2 := ⟨gw_all _ [755, 756, 66, 757] (by decide +kernel) (by decide +kernel), by decide +kernel, by decide⟩
abbrev iX4_canHold : Mi := (cX4_canHold, RX4, 2, (some .boolean))
theorem ckX4_canHold : CkM RX4 yX4_canHold iX4_canHold 1 := ⟨gw_all _ [457, 458, 66, 459] (by decide +kernel) (by decide +kernel), by decide +kernel, by decide⟩
abbrev iX4_copyFrom : Mi := (cX4_copyFrom, RX4, 2, none)
theorem ckX4_copyFrom : CkM RX4 yX4_copyFrom iX4_copyFrom 1 := ⟨gw_all _ [485, 486, 66, 487] (by decide +kernel) (by decide +kernel), by decide +kernel, by decide⟩
abbrev iX4_countRun : Mi := (cX4_countRun, RX4, 3, (some .int))
theorem ckX4_countRun : CkM RX4 yX4_countRun iX4_countRun 0 := ⟨gw_all _ [778, 779, 66, 780] (by decide +kernel) (by decide +kernel), by decide +kernel, by decide⟩
abbrev iX4_countViolations : Mi := (cX4_countViolations, RX4, 4, (some .int))
theorem ckX4_countViolations : CkM RX4 yX4_countViolations iX4_countViolations 1 := ⟨gw_all _ [723, 724, 66, 725] (by decide +kernel) (by decide +kernel), by decide +kernel, by decide⟩
abbrev iX4_declareObject : Mi := (cX4_declareObject, RX4, 5, none)
theorem ckX4_declareObject : CkM RX4 yX4_declareObject iX4_declareObject 4 := ⟨gw_all _ [469, 470, 66, 471] (by decide +kernel) (by decide +kernel), by decide +kernel, by decide⟩
abbrev iX4_dropRequirement : Mi := (cX4_dropRequirement, RX4, 3, none)
theorem ckX4_dropRequirement : CkM RX4 yX4_dropRequirement iX4_dropRequirement 1 := ⟨gw_all _ [715, 716, 66, 717] (by decide +kernel) (by decide +kernel), by decide +kernel, by decide⟩
abbrev iX4_fillInitialRows : Mi := (cX4_fillInitialRows, RX4, 4, none)
theorem ckX4_fillInitialRows : CkM RX4 yX4_fillInitialRows iX4_fillInitialRows 2 := ⟨gw_all _ [500, 501, 66, 502] (by decide +kernel) (by decide +kernel), by decide +kernel, by decide⟩
abbrev iX4_findRequirement : Mi := (cX4_findRequirement, RX4, 4, (some .int))
theorem ckX4_findRequirement : CkM RX4 yX4_findRequirement iX4_findRequirement 2 := ⟨gw_all _ [703, 704, 66, 705] (by decide +kernel) (by decide +kernel), by decide +kernel, by decide⟩
abbrev iX4_fits : Mi := (cX4_fits, RX4, 3, (some .boolean))
theorem ckX4_fits : CkM RX4 yX4_fits iX4_fits 2 := ⟨gw_all _ [587, 588, 66, 589] (by decide +kernel) (by decide +kernel), by decide +kernel, by decide⟩
abbrev iX4_has : Mi := (cX4_has, RX4, 2, (some .boolean))
theorem ckX4_has : CkM RX4 yX4_has iX4_has 1 := ⟨gw_all _ [448, 449, 66, 450] (by decide +kernel) (by decide +kernel), by decide +kernel, by decide⟩
abbrev iX4_hasBoth : Mi := (cX4_hasBoth, RX4, 3, (some .boolean))
theorem ckX4_hasBoth : CkM RX4 yX4_hasBoth iX4_hasBoth 2 := ⟨gw_all _ [556, 557, 66, 558] (by decide +kernel) (by decide +kernel), by decide +kernel, by decide⟩
abbrev iX4_init : Mi := (cX4_init, RX4, 1, none)
abbrev iX4_isAgent : Mi := (cX4_isAgent, RX4, 2, (some .boolean))
theorem ckX4_isAgent : CkM RX4 yX4_isAgent iX4_isAgent 1 := ⟨gw_all _ [452, 453, 66, 454] (by decide +kernel) (by decide +kernel), by decide +kernel, by decide⟩
abbrev iX4_isAgentWith : Mi := (cX4_isAgentWith, RX4, 3, (some .boolean))
theorem ckX4_isAgentWith : CkM RX4 yX4_isAgentWith iX4_isAgentWith 2 := ⟨gw_all _ [571, 572, 66, 573] (by decide +kernel) (by decide +kernel), by decide +kernel, by decide⟩
abbrev iX4_isOfKind : Mi := (cX4_isOfKind, RX4, 3, (some .boolean))
theorem ckX4_isOfKind : CkM RX4 yX4_isOfKind iX4_isOfKind 2 := ⟨gw_all _ [582, 583, 66, 584] (by decide +kernel) (by decide +kernel), by decide +kernel, by decide⟩
abbrev iX4_listReference : Mi := (cX4_listReference, RX4, 3, none)
theorem ckX4_listReference : CkM RX4 yX4_listReference iX4_listReference 2 := ⟨gw_all _ [473, 474, 66, 475] (by decide +kernel) (by decide +kernel), by decide +kernel, by decide⟩
abbrev iX4_listsReference : Mi := (cX4_listsReference, RX4, 4, (some .boolean))
theorem ckX4_listsReference : CkM RX4 yX4_listsReference iX4_listsReference 2 := ⟨gw_all _ [461, 462, 66, 463] (by decide +kernel) (by decide +kernel), by decide +kernel, by decide⟩
abbrev iX4_reset : Mi := (cX4_reset, RX4, 1, none)
theorem ckX4_reset : CkM RX4 yX4_reset iX4_reset 0 := ⟨gw_all _ [357, 358, 66, 359] (by decide +kernel) (by decide +kernel), by decide +kernel, by decide⟩
abbrev iX4_runHolds : Mi := (cX4_runHolds, RX4, 3, (some .boolean))
theorem ckX4_runHolds : CkM RX4 yX4_runHolds iX4_runHolds 2 := ⟨gw_all _ [751, 752, 66, 753] (by decide +kernel) (by decide +kernel), by decide +kernel, by decide⟩
abbrev iX4_startRun : Mi := (cX4_startRun, RX4, 1, none)
theorem ckX4_startRun : CkM RX4 yX4_startRun iX4_startRun 0 := ⟨gw_all _ [496, 497, 66, 498] (by decide +kernel) (by decide +kernel), by decide +kernel, by decide⟩
abbrev iX4_unlistReference : Mi := (cX4_unlistReference, RX4, 3, none)
theorem ckX4_unlistReference : CkM RX4 yX4_unlistReference iX4_unlistReference 1 := ⟨gw_all _ [544, 545, 66, 546] (by decide +kernel) (by decide +kernel), by decide +kernel, by decide⟩
abbrev iX5_accepts : Mi := (cX5_accepts, RX5, 5, (some .boolean))
theorem ckX5_accepts : CkM RX5 yX5_accepts iX5_accepts 4 := ⟨gw_all _ [445, 6, 65, 446] (by decide +kernel) (by decide +kernel), by decide +kernel, by decide⟩
abbrev iX5_advance : Mi := (cX5_advance, RX5, 1, none)
theorem ckX5_advance : CkM RX5 yX5_advance iX5_advance 0 := ⟨gw_all _ [365, 0, 65, 366] (by decide +kernel) (by decide +kernel), by decide +kernel, by decide⟩
abbrev iX5_findStatement : Mi := (cX5_findStatement, RX5, 1, (some .int))
theorem ckX5_findStatement : CkM RX5 yX5_findStatement iX5_findStatement 0 := ⟨gw_all _ [376, 2, 65, 377] (by decide +kernel) (by decide +kernel), by decide +kernel, by decide⟩
abbrev iX5_init : Mi := (cX5_init, RX5, 1, none)
abbrev iX5_isFull : Mi := (cX5_isFull, RX5, 3, (some .boolean))
theorem ckX5_isFull : CkM RX5 yX5_isFull iX5_isFull 2 := ⟨gw_all _ [437, 4, 65, 438] (by decide +kernel) (by decide +kernel), by decide +kernel, by decide⟩
abbrev iX5_numberValue : Mi := (cX5_numberValue, RX5, 2, (some .int))
theorem ckX5_numberValue : CkM RX5 yX5_numberValue iX5_numberValue 0 := ⟨gw_all _ [441, 5, 65, 442] (by decide +kernel) (by decide +kernel), by decide +kernel, by decide⟩
abbrev iX5_perform : Mi := (cX5_perform, RX5, 3, none)
theorem ckX5_perform : CkM RX5 yX5_perform iX5_perform 2 := ⟨gw_all _ [466, 7, 65, 467] (by decide +kernel) (by decide +kernel), by decide +kernel, by decide⟩
abbrev iX5_readInto : Mi := (cX5_readInto, RX5, 3, (some .int))
theorem ckX5_readInto : CkM RX5 yX5_readInto iX5_readInto 1 := ⟨gw_all _ [353, 354, 65, 355] (by decide +kernel) (by decide +kernel), by decide +kernel, by decide⟩
abbrev iX5_readStatement : Mi := (cX5_readStatement, RX5, 6, (some .boolean))
theorem ckX5_readStatement : CkM RX5 yX5_readStatement iX5_readStatement 1 := ⟨gw_all _ [372, 1, 65, 373] (by decide +kernel) (by decide +kernel), by decide +kernel, by decide⟩
abbrev iX5_tokenIs : Mi := (cX5_tokenIs, RX5, 3, (some .boolean))
theorem ckX5_tokenIs : CkM RX5 yX5_tokenIs iX5_tokenIs 1 := ⟨gw_all _ [381, 3, 65, 382] (by decide +kernel) (by decide +kernel), by decide +kernel, by decide⟩
abbrev iX5_typeOf : Mi := (cX5_typeOf, RX5, 1, (some .int))
theorem ckX5_typeOf : CkS yX5_typeOf iX5_typeOf 1 := ⟨gw_all _ [368, 65, 369] (by decide +kernel) (by decide +kernel), by decide +kernel, by decide⟩
abbrev iX6_addReference : Mi := (cX6_addReference, RX6, 3, (some .int))
theorem ckX6_addReference : CkM RX6 yX6_addReference iX6_addReference 2 := ⟨gw_all _ [533, 534, 64, 535] (by decide +kernel) (by decide +kernel), by decide +kernel, by decide⟩
abbrev iX6_append : Mi := (cX6_append, RX6, 2, (some .int))
theorem ckX6_append : CkM RX6 yX6_append iX6_append 1 := ⟨gw_all _ [341, 342, 64, 343] (by decide +kernel) (by decide +kernel), by decide +kernel, by decide⟩
abbrev iX6_behaviour : Mi := (cX6_behaviour, RX6, 2, (some .int))
theorem ckX6_behaviour : CkM RX6 yX6_behaviour iX6_behaviour 1 := ⟨gw_all _ [520, 521, 64, 522] (by decide +kernel) (by decide +kernel), by decide +kernel, by decide⟩
abbrev iX6_bit : Mi := (cX6_bit, RX6, 1, (some .int))
theorem ckX6_bit : CkS yX6_bit iX6_bit 1 := ⟨gw_all _ [507, 64, 508] (by decide +kernel) (by decide +kernel), by decide +kernel, by decide⟩
abbrev iX6_clearText : Mi := (cX6_clearText, RX6, 2, (some .int))
theorem ckX6_clearText : CkM RX6 yX6_clearText iX6_clearText 0 := ⟨gw_all _ [345, 346, 64, 347] (by decide +kernel) (by decide +kernel), by decide +kernel, by decide⟩
abbrev iX6_coarselyMayHold : Mi := (cX6_coarselyMayHold, RX6, 3, (some .int))
theorem ckX6_coarselyMayHold : CkM RX6 yX6_coarselyMayHold iX6_coarselyMayHold 2 := ⟨gw_all _ [695, 696, 64, 697] (by decide +kernel) (by decide +kernel), by decide +kernel, by decide⟩
abbrev iX6_contains : Mi := (cX6_contains, RX6, 2, (some .boolean))
theorem ckX6_contains : CkS yX6_contains iX6_contains 2 := ⟨gw_all _ [504, 64, 505] (by decide +kernel) (by decide +kernel), by decide +kernel, by decide⟩
abbrev iX6_create : Mi := (cX6_create, RX6, 6, (some .int))
theorem ckX6_create : CkM RX6 yX6_create iX6_create 2 := ⟨gw_all _ [769, 770, 64, 771] (by decide +kernel) (by decide +kernel), by decide +kernel, by decide⟩
abbrev iX6_derivationSize : Mi := (cX6_derivationSize, RX6, 3, (some .int))
theorem ckX6_derivationSize : CkM RX6 yX6_derivationSize iX6_derivationSize 2 := ⟨gw_all _ [679, 680, 64, 681] (by decide +kernel) (by decide +kernel), by decide +kernel, by decide⟩
abbrev iX6_findNeeded : Mi := (cX6_findNeeded, RX6, 4, (some .int))
theorem ckX6_findNeeded : CkM RX6 yX6_findNeeded iX6_findNeeded 1 := ⟨gw_all _ [732, 24, 64, 733] (by decide +kernel) (by decide +kernel), by decide +kernel, by decide⟩
abbrev iX6_forbid : Mi := (cX6_forbid, RX6, 3, (some .int))
theorem ckX6_forbid : CkM RX6 yX6_forbid iX6_forbid 2 := ⟨gw_all _ [699, 700, 64, 701] (by decide +kernel) (by decide +kernel), by decide +kernel, by decide⟩
abbrev iX6_give : Mi := (cX6_give, RX6, 4, (some .int))
theorem ckX6_give : CkM RX6 yX6_give iX6_give 3 := ⟨gw_all _ [746, 747, 64, 748] (by decide +kernel) (by decide +kernel), by decide +kernel, by decide⟩
abbrev iX6_holdsInRun : Mi := (cX6_holdsInRun, RX6, 3, (some .int))
theorem ckX6_holdsInRun : CkM RX6 yX6_holdsInRun iX6_holdsInRun 2 := ⟨gw_all _ [782, 783, 64, 784] (by decide +kernel) (by decide +kernel), by decide +kernel, by decide⟩
abbrev iX6_init : Mi := (cX6_init, RX6, 1, none)
abbrev iX6_isRepair : Mi := (cX6_isRepair, RX6, 2, (some .boolean))
theorem ckX6_isRepair : CkM RX6 yX6_isRepair iX6_isRepair 1 := ⟨gw_all _ [737, 25, 64, 738] (by decide +kernel) (by decide +kernel), by decide +kernel, by decide⟩
abbrev iX6_kind : Mi := (cX6_kind, RX6, 2, (some .int))
theorem ckX6_kind : CkM RX6 yX6_kind iX6_kind 1 := ⟨gw_all _ [515, 516, 64, 517] (by decide +kernel) (by decide +kernel), by decide +kernel, by decide⟩
abbrev iX6_lastRound : Mi := (cX6_lastRound, RX6, 1, (some .int))
theorem ckX6_lastRound : CkM RX6 yX6_lastRound iX6_lastRound 0 := ⟨gw_all _ [691, 692, 64, 693] (by decide +kernel) (by decide +kernel), by decide +kernel, by decide⟩
abbrev iX6_load : Mi := (cX6_load, RX6, 2, (some .int))
theorem ckX6_load : CkM RX6 yX6_load iX6_load 0 := ⟨gw_all _ [349, 350, 64, 351] (by decide +kernel) (by decide +kernel), by decide +kernel, by decide⟩
abbrev iX6_lowest : Mi := (cX6_lowest, RX6, 2, (some .int))
theorem ckX6_lowest : CkS yX6_lowest iX6_lowest 1 := ⟨gw_all _ [615, 64, 616] (by decide +kernel) (by decide +kernel), by decide +kernel, by decide⟩
abbrev iX6_mayHold : Mi := (cX6_mayHold, RX6, 3, (some .int))
theorem ckX6_mayHold : CkM RX6 yX6_mayHold iX6_mayHold 2 := ⟨gw_all _ [552, 553, 64, 554] (by decide +kernel) (by decide +kernel), by decide +kernel, by decide⟩
abbrev iX6_objectCount : Mi := (cX6_objectCount, RX6, 1, (some .int))
theorem ckX6_objectCount : CkM RX6 yX6_objectCount iX6_objectCount 0 := ⟨gw_all _ [511, 512, 64, 513] (by decide +kernel) (by decide +kernel), by decide +kernel, by decide⟩
abbrev iX6_open : Mi := (cX6_open, RX6, 4, (some .int))
theorem ckX6_open : CkM RX6 yX6_open iX6_open 3 := ⟨gw_all _ [764, 765, 64, 766] (by decide +kernel) (by decide +kernel), by decide +kernel, by decide⟩
abbrev iX6_pair : Mi := (cX6_pair, RX6, 2, (some .int))
theorem ckX6_pair : CkS yX6_pair iX6_pair 2 := ⟨gw_all _ [603, 64, 604] (by decide +kernel) (by decide +kernel), by decide +kernel, by decide⟩
abbrev iX6_partner : Mi := (cX6_partner, RX6, 3, (some .int))
theorem ckX6_partner : CkM RX6 yX6_partner iX6_partner 2 := ⟨gw_all _ [675, 676, 64, 677] (by decide +kernel) (by decide +kernel), by decide +kernel, by decide⟩
abbrev iX6_permit : Mi := (cX6_permit, RX6, 4, (some .int))
theorem ckX6_permit : CkM RX6 yX6_permit iX6_permit 2 := ⟨gw_all _ [711, 712, 64, 713] (by decide +kernel) (by decide +kernel), by decide +kernel, by decide⟩
abbrev iX6_referenceCount : Mi := (cX6_referenceCount, RX6, 1, (some .int))
theorem ckX6_referenceCount : CkM RX6 yX6_referenceCount iX6_referenceCount 0 := ⟨gw_all _ [548, 549, 64, 550] (by decide +kernel) (by decide +kernel), by decide +kernel, by decide⟩
abbrev iX6_refreshAnalysis : Mi := (cX6_refreshAnalysis, RX6, 1, none)
theorem ckX6_refreshAnalysis : CkM RX6 yX6_refreshAnalysis iX6_refreshAnalysis 0 := ⟨gw_all _ [561, 9, 64, 562] (by decide +kernel) (by decide +kernel), by decide +kernel, by decide⟩
abbrev iX6_removeReference : Mi := (cX6_removeReference, RX6, 2, (some .int))
theorem ckX6_removeReference : CkM RX6 yX6_removeReference iX6_removeReference 1 := ⟨gw_all _ [540, 541, 64, 542] (by decide +kernel) (by decide +kernel), by decide +kernel, by decide⟩
abbrev iX6_restartRun : Mi := (cX6_restartRun, RX6, 2, (some .int))
theorem ckX6_restartRun : CkM RX6 yX6_restartRun iX6_restartRun 0 := ⟨gw_all _ [774, 775, 64, 776] (by decide +kernel) (by decide +kernel), by decide +kernel, by decide⟩
abbrev iX6_round : Mi := (cX6_round, RX6, 3, (some .int))
theorem ckX6_round : CkM RX6 yX6_round iX6_round 2 := ⟨gw_all _ [666, 667, 64, 668] (by decide +kernel) (by decide +kernel), by decide +kernel, by decide⟩
abbrev iX6_rule : Mi := (cX6_rule, RX6, 3, (some .int))
theorem ckX6_rule : CkM RX6 yX6_rule iX6_rule 2 := ⟨gw_all _ [671, 672, 64, 673] (by decide +kernel) (by decide +kernel), by decide +kernel, by decide⟩
abbrev iX6_saveState : Mi := (cX6_saveState, RX6, 1, none)
theorem ckX6_saveState : CkM RX6 yX6_saveState iX6_saveState 0 := ⟨gw_all _ [478, 8, 64, 479] (by decide +kernel) (by decide +kernel), by decide +kernel, by decide⟩
abbrev iX6_setBehaviour : Mi := (cX6_setBehaviour, RX6, 4, (some .int))
theorem ckX6_setBehaviour : CkM RX6 yX6_setBehaviour iX6_setBehaviour 2 := ⟨gw_all _ [525, 526, 64, 527] (by decide +kernel) (by decide +kernel), by decide +kernel, by decide⟩
abbrev iX6_setGroup : Mi := (cX6_setGroup, RX6, 4, (some .int))
theorem ckX6_setGroup : CkM RX6 yX6_setGroup iX6_setGroup 2 := ⟨gw_all _ [529, 530, 64, 531] (by decide +kernel) (by decide +kernel), by decide +kernel, by decide⟩
abbrev iX6_smallestRepair : Mi := (cX6_smallestRepair, RX6, 6, (some .int))
theorem ckX6_smallestRepair : CkM RX6 yX6_smallestRepair iX6_smallestRepair 0 := ⟨gw_all _ [727, 728, 64, 729] (by decide +kernel) (by decide +kernel), by decide +kernel, by decide⟩
abbrev iX6_take : Mi := (cX6_take, RX6, 4, (some .int))
theorem ckX6_take : CkM RX6 yX6_take iX6_take 3 := ⟨gw_all _ [760, 761, 64, 762] (by decide +kernel) (by decide +kernel), by decide +kernel, by decide⟩
abbrev iX6_undo : Mi := (cX6_undo, RX6, 1, (some .int))
theorem ckX6_undo : CkM RX6 yX6_undo iX6_undo 0 := ⟨gw_all _ [786, 787, 64, 788] (by decide +kernel) (by decide +kernel), by decide +kernel, by decide⟩
abbrev iX6_undoDepth : Mi := (cX6_undoDepth, RX6, 1, (some .int))
theorem ckX6_undoDepth : CkM RX6 yX6_undoDepth iX6_undoDepth 0 := ⟨gw_all _ [794, 795, 64, 796] (by decide +kernel) (by decide +kernel), by decide +kernel, by decide⟩
abbrev iX6_violationCount : Mi := (cX6_violationCount, RX6, 1, (some .int))
theorem ckX6_violationCount : CkM RX6 yX6_violationCount iX6_violationCount 0 := ⟨gw_all _ [719, 720, 64, 721] (by decide +kernel) (by decide +kernel), by decide +kernel, by decide⟩
abbrev iX7_addReference : Mi := (cX7_addReference, RX7, 3, (some .int))
theorem ckX7_addReference : CkM RX7 yX7_addReference iX7_addReference 2 := ⟨gw_all _ [954, 955, 71, 956] (by decide +kernel) (by decide +kernel), by decide +kernel, by decide⟩
abbrev iX7_advance : Mi := (cX7_advance, RX7, 3, none)
theorem ckX7_advance : CkM RX7 yX7_advance iX7_advance 0 := ⟨gw_all _ [873, 26, 71, 874] (by decide +kernel) (by decide +kernel), by decide +kernel, by decide⟩
abbrev iX7_analyse : Mi := (cX7_analyse, RX7, 3, none)
theorem ckX7_analyse : CkM RX7 yX7_analyse iX7_analyse 1 := ⟨gw_all _ [979, 42, 71, 980] (by decide +kernel) (by decide +kernel), by decide +kernel, by decide⟩
abbrev iX7_answerer : Mi := (cX7_answerer, RX7, 5, (some .int))
theorem ckX7_answerer : CkM RX7 yX7_answerer iX7_answerer 3 := ⟨gw_all _ [1010, 49, 71, 1011] (by decide +kernel) (by decide +kernel), by decide +kernel, by decide⟩
abbrev iX7_append : Mi := (cX7_append, RX7, 2, (some .int))
theorem ckX7_append : CkM RX7 yX7_append iX7_append 1 := ⟨gw_all _ [857, 858, 71, 859] (by decide +kernel) (by decide +kernel), by decide +kernel, by decide⟩
abbrev iX7_areObjects : Mi := (cX7_areObjects, RX7, 3, (some .boolean))
theorem ckX7_areObjects : CkM RX7 yX7_areObjects iX7_areObjects 2 := ⟨gw_all _ [971, 40, 71, 972] (by decide +kernel) (by decide +kernel), by decide +kernel, by decide⟩
abbrev iX7_beginRun : Mi := (cX7_beginRun, RX7, 2, none)
theorem ckX7_beginRun : CkM RX7 yX7_beginRun iX7_beginRun 0 := ⟨gw_all _ [919, 36, 71, 920] (by decide +kernel) (by decide +kernel), by decide +kernel, by decide⟩
abbrev iX7_behaviour : Mi := (cX7_behaviour, RX7, 2, (some .int))
theorem ckX7_behaviour : CkM RX7 yX7_behaviour iX7_behaviour 1 := ⟨gw_all _ [934, 935, 71, 936] (by decide +kernel) (by decide +kernel), by decide +kernel, by decide⟩
abbrev iX7_bitCount : Mi := (cX7_bitCount, RX7, 3, (some .int))
theorem ckX7_bitCount : CkS yX7_bitCount iX7_bitCount 1 := ⟨gw_all _ [1097, 71, 1098] (by decide +kernel) (by decide +kernel), by decide +kernel, by decide⟩
abbrev iX7_change : Mi := (cX7_change, RX7, 4, (some .int))
theorem ckX7_change : CkM RX7 yX7_change iX7_change 2 := ⟨gw_all _ [947, 39, 71, 948] (by decide +kernel) (by decide +kernel), by decide +kernel, by decide⟩
abbrev iX7_characterAt : Mi := (cX7_characterAt, RX7, 2, (some .int))
theorem ckX7_characterAt : CkM RX7 yX7_characterAt iX7_characterAt 1 := ⟨gw_all _ [877, 27, 71, 878] (by decide +kernel) (by decide +kernel), by decide +kernel, by decide⟩
abbrev iX7_clearText : Mi := (cX7_clearText, RX7, 2, (some .int))
theorem ckX7_clearText : CkM RX7 yX7_clearText iX7_clearText 0 := ⟨gw_all _ [864, 865, 71, 866] (by decide +kernel) (by decide +kernel), by decide +kernel, by decide⟩
abbrev iX7_coarselyMayHold : Mi := (cX7_coarselyMayHold, RX7, 6, (some .int))
theorem ckX7_coarselyMayHold : CkM RX7 yX7_coarselyMayHold iX7_coarselyMayHold 2 := ⟨gw_all _ [1061, 1062, 71, 1063] (by decide +kernel) (by decide +kernel), by decide +kernel, by decide⟩
abbrev iX7_create : Mi := (cX7_create, RX7, 5, (some .int))
theorem ckX7_create : CkM RX7 yX7_create iX7_create 2 := ⟨gw_all _ [1120, 1121, 71, 1122] (by decide +kernel) (by decide +kernel), by decide +kernel, by decide⟩
abbrev iX7_creator : Mi := (cX7_creator, RX7, 5, (some .int))
theorem ckX7_creator : CkM RX7 yX7_creator iX7_creator 3 := ⟨gw_all _ [1022, 52, 71, 1023] (by decide +kernel) (by decide +kernel), by decide +kernel, by decide⟩
abbrev iX7_derivationSize : Mi := (cX7_derivationSize, RX7, 5, (some .int))
theorem ckX7_derivationSize : CkM RX7 yX7_derivationSize iX7_derivationSize 2 := ⟨gw_all _ [1045, 1046, 71, 1047] (by decide +kernel) (by decide +kernel), by decide +kernel, by decide⟩
abbrev iX7_derive : Mi := (cX7_derive, RX7, 4, none)
theorem ckX7_derive : CkM RX7 yX7_derive iX7_derive 2 := ⟨gw_all _ [1050, 55, 71, 1051] (by decide +kernel) (by decide +kernel), by decide +kernel, by decide⟩
abbrev iX7_derivePremises : Mi := (cX7_derivePremises, RX7, 6, none)
theorem ckX7_derivePremises : CkM RX7 yX7_derivePremises iX7_derivePremises 2 := ⟨gw_all _ [1054, 56, 71, 1055] (by decide +kernel) (by decide +kernel), by decide +kernel, by decide⟩
abbrev iX7_does : Mi := (cX7_does, RX7, 3, (some .boolean))
theorem ckX7_does : CkM RX7 yX7_does iX7_does 2 := ⟨gw_all _ [1002, 47, 71, 1003] (by decide +kernel) (by decide +kernel), by decide +kernel, by decide⟩
abbrev iX7_endower : Mi := (cX7_endower, RX7, 5, (some .int))
theorem ckX7_endower : CkM RX7 yX7_endower iX7_endower 3 := ⟨gw_all _ [1026, 53, 71, 1027] (by decide +kernel) (by decide +kernel), by decide +kernel, by decide⟩
abbrev iX7_findRound : Mi := (cX7_findRound, RX7, 5, (some .boolean))
theorem ckX7_findRound : CkM RX7 yX7_findRound iX7_findRound 1 := ⟨gw_all _ [986, 43, 71, 987] (by decide +kernel) (by decide +kernel), by decide +kernel, by decide⟩
abbrev iX7_forbid : Mi := (cX7_forbid, RX7, 3, (some .int))
theorem ckX7_forbid : CkM RX7 yX7_forbid iX7_forbid 2 := ⟨gw_all _ [1073, 1074, 71, 1075] (by decide +kernel) (by decide +kernel), by decide +kernel, by decide⟩
abbrev iX7_give : Mi := (cX7_give, RX7, 4, (some .int))
theorem ckX7_give : CkM RX7 yX7_give iX7_give 3 := ⟨gw_all _ [1100, 1101, 71, 1102] (by decide +kernel) (by decide +kernel), by decide +kernel, by decide⟩
abbrev iX7_giver : Mi := (cX7_giver, RX7, 5, (some .int))
theorem ckX7_giver : CkM RX7 yX7_giver iX7_giver 3 := ⟨gw_all _ [998, 46, 71, 999] (by decide +kernel) (by decide +kernel), by decide +kernel, by decide⟩
abbrev iX7_has : Mi := (cX7_has, RX7, 2, (some .boolean))
theorem ckX7_has : CkS yX7_has iX7_has 2 := ⟨gw_all _ [982, 71, 983] (by decide +kernel) (by decide +kernel), by decide +kernel, by decide⟩
abbrev iX7_holds : Mi := (cX7_holds, RX7, 3, (some .boolean))
theorem ckX7_holds : CkM RX7 yX7_holds iX7_holds 2 := ⟨gw_all _ [1105, 61, 71, 1106] (by decide +kernel) (by decide +kernel), by decide +kernel, by decide⟩
abbrev iX7_holdsInRun : Mi := (cX7_holdsInRun, RX7, 3, (some .int))
theorem ckX7_holdsInRun : CkM RX7 yX7_holdsInRun iX7_holdsInRun 2 := ⟨gw_all _ [1128, 1129, 71, 1130] (by decide +kernel) (by decide +kernel), by decide +kernel, by decide⟩
abbrev iX7_in : Mi := (cX7_in, RX7, 3, (some .boolean))
theorem ckX7_in : CkS yX7_in iX7_in 3 := ⟨gw_all _ [861, 71, 862] (by decide +kernel) (by decide +kernel), by decide +kernel, by decide⟩
abbrev iX7_indexOf : Mi := (cX7_indexOf, RX7, 4, (some .int))
theorem ckX7_indexOf : CkS yX7_indexOf iX7_indexOf 3 := ⟨gw_all _ [903, 71, 904] (by decide +kernel) (by decide +kernel), by decide +kernel, by decide⟩
abbrev iX7_init : Mi := (cX7_init, RX7, 1, none)
abbrev iX7_isFine : Mi := (cX7_isFine, RX7, 1, (some .boolean))
theorem ckX7_isFine : CkM RX7 yX7_isFine iX7_isFine 0 := ⟨gw_all _ [889, 30, 71, 890] (by decide +kernel) (by decide +kernel), by decide +kernel, by decide⟩
abbrev iX7_isFound : Mi := (cX7_isFound, RX7, 5, (some .boolean))
theorem ckX7_isFound : CkM RX7 yX7_isFound iX7_isFound 3 := ⟨gw_all _ [1006, 48, 71, 1007] (by decide +kernel) (by decide +kernel), by decide +kernel, by decide⟩
abbrev iX7_isHolder : Mi := (cX7_isHolder, RX7, 2, (some .boolean))
theorem ckX7_isHolder : CkS yX7_isHolder iX7_isHolder 2 := ⟨gw_all _ [900, 71, 901] (by decide +kernel) (by decide +kernel), by decide +kernel, by decide⟩
abbrev iX7_isLetter : Mi := (cX7_isLetter, RX7, 3, (some .boolean))
theorem ckX7_isLetter : CkM RX7 yX7_isLetter iX7_isLetter 2 := ⟨gw_all _ [885, 29, 71, 886] (by decide +kernel) (by decide +kernel), by decide +kernel, by decide⟩
abbrev iX7_isObject : Mi := (cX7_isObject, RX7, 2, (some .boolean))
theorem ckX7_isObject : CkM RX7 yX7_isObject iX7_isObject 1 := ⟨gw_all _ [931, 37, 71, 932] (by decide +kernel) (by decide +kernel), by decide +kernel, by decide⟩
abbrev iX7_isOf : Mi := (cX7_isOf, RX7, 3, (some .boolean))
theorem ckX7_isOf : CkM RX7 yX7_isOf iX7_isOf 2 := ⟨gw_all _ [939, 38, 71, 940] (by decide +kernel) (by decide +kernel), by decide +kernel, by decide⟩
abbrev iX7_keyOf : Mi := (cX7_keyOf, RX7, 5, (some .int))
theorem ckX7_keyOf : CkM RX7 yX7_keyOf iX7_keyOf 3 := ⟨gw_all _ [1018, 51, 71, 1019] (by decide +kernel) (by decide +kernel), by decide +kernel, by decide⟩
abbrev iX7_keyword : Mi := (cX7_keyword, RX7, 3, (some .int))
theorem ckX7_keyword : CkM RX7 yX7_keyword iX7_keyword 0 := ⟨gw_all _ [881, 28, 71, 882] (by decide +kernel) (by decide +kernel), by decide +kernel, by decide⟩
abbrev iX7_kind : Mi := (cX7_kind, RX7, 2, (some .int))
theorem ckX7_kind : CkM RX7 yX7_kind iX7_kind 1 := ⟨gw_all _ [926, 927, 71, 928] (by decide +kernel) (by decide +kernel), by decide +kernel, by decide⟩
abbrev iX7_lastRound : Mi := (cX7_lastRound, RX7, 1, (some .int))
theorem ckX7_lastRound : CkM RX7 yX7_lastRound iX7_lastRound 0 := ⟨gw_all _ [1057, 1058, 71, 1059] (by decide +kernel) (by decide +kernel), by decide +kernel, by decide⟩
abbrev iX7_load : Mi := (cX7_load, RX7, 3, (some .int))
theorem ckX7_load : CkM RX7 yX7_load iX7_load 0 := ⟨gw_all _ [868, 869, 71, 870] (by decide +kernel) (by decide +kernel), by decide +kernel, by decide⟩
abbrev iX7_mayHold : Mi := (cX7_mayHold, RX7, 3, (some .int))
theorem ckX7_mayHold : CkM RX7 yX7_mayHold iX7_mayHold 2 := ⟨gw_all _ [966, 967, 71, 968] (by decide +kernel) (by decide +kernel), by decide +kernel, by decide⟩
abbrev iX7_merge : Mi := (cX7_merge, RX7, 5, (some .boolean))
theorem ckX7_merge : CkM RX7 yX7_merge iX7_merge 0 := ⟨gw_all _ [1066, 57, 71, 1067] (by decide +kernel) (by decide +kernel), by decide +kernel, by decide⟩
abbrev iX7_mergeGroups : Mi := (cX7_mergeGroups, RX7, 7, (some .boolean))
theorem ckX7_mergeGroups : CkM RX7 yX7_mergeGroups iX7_mergeGroups 2 := ⟨gw_all _ [1070, 58, 71, 1071] (by decide +kernel) (by decide +kernel), by decide +kernel, by decide⟩
abbrev iX7_number : Mi := (cX7_number, RX7, 2, (some .int))
theorem ckX7_number : CkM RX7 yX7_number iX7_number 1 := ⟨gw_all _ [911, 34, 71, 912] (by decide +kernel) (by decide +kernel), by decide +kernel, by decide⟩
abbrev iX7_objectCount : Mi := (cX7_objectCount, RX7, 1, (some .int))
theorem ckX7_objectCount : CkM RX7 yX7_objectCount iX7_objectCount 0 := ⟨gw_all _ [922, 923, 71, 924] (by decide +kernel) (by decide +kernel), by decide +kernel, by decide⟩
abbrev iX7_open : Mi := (cX7_open, RX7, 4, (some .int))
theorem ckX7_open : CkM RX7 yX7_open iX7_open 3 := ⟨gw_all _ [1116, 1117, 71, 1118] (by decide +kernel) (by decide +kernel), by decide +kernel, by decide⟩
abbrev iX7_openedBox : Mi := (cX7_openedBox, RX7, 5, (some .int))
theorem ckX7_openedBox : CkM RX7 yX7_openedBox iX7_openedBox 3 := ⟨gw_all _ [1014, 50, 71, 1015] (by decide +kernel) (by decide +kernel), by decide +kernel, by decide⟩
abbrev iX7_partner : Mi := (cX7_partner, RX7, 4, (some .int))
theorem ckX7_partner : CkM RX7 yX7_partner iX7_partner 2 := ⟨gw_all _ [1041, 1042, 71, 1043] (by decide +kernel) (by decide +kernel), by decide +kernel, by decide⟩
abbrev iX7_partnerBy : Mi := (cX7_partnerBy, RX7, 5, (some .int))
theorem ckX7_partnerBy : CkM RX7 yX7_partnerBy iX7_partnerBy 4 := ⟨gw_all _ [994, 45, 71, 995] (by decide +kernel) (by decide +kernel), by decide +kernel, by decide⟩
abbrev iX7_permit : Mi := (cX7_permit, RX7, 5, (some .int))
theorem ckX7_permit : CkM RX7 yX7_permit iX7_permit 2 := ⟨gw_all _ [1081, 1082, 71, 1083] (by decide +kernel) (by decide +kernel), by decide +kernel, by decide⟩
abbrev iX7_readHold : Mi := (cX7_readHold, RX7, 3, none)
theorem ckX7_readHold : CkM RX7 yX7_readHold iX7_readHold 0 := ⟨gw_all _ [897, 32, 71, 898] (by decide +kernel) (by decide +kernel), by decide +kernel, by decide⟩
abbrev iX7_readObject : Mi := (cX7_readObject, RX7, 6, none)
theorem ckX7_readObject : CkM RX7 yX7_readObject iX7_readObject 1 := ⟨gw_all _ [907, 33, 71, 908] (by decide +kernel) (by decide +kernel), by decide +kernel, by decide⟩
abbrev iX7_referenceCount : Mi := (cX7_referenceCount, RX7, 1, (some .int))
theorem ckX7_referenceCount : CkM RX7 yX7_referenceCount iX7_referenceCount 0 := ⟨gw_all _ [962, 963, 71, 964] (by decide +kernel) (by decide +kernel), by decide +kernel, by decide⟩
abbrev iX7_removeReference : Mi := (cX7_removeReference, RX7, 3, (some .int))
theorem ckX7_removeReference : CkM RX7 yX7_removeReference iX7_removeReference 1 := ⟨gw_all _ [958, 959, 71, 960] (by decide +kernel) (by decide +kernel), by decide +kernel, by decide⟩
abbrev iX7_requirementOf : Mi := (cX7_requirementOf, RX7, 4, (some .int))
theorem ckX7_requirementOf : CkM RX7 yX7_requirementOf iX7_requirementOf 2 := ⟨gw_all _ [1078, 59, 71, 1079] (by decide +kernel) (by decide +kernel), by decide +kernel, by decide⟩
abbrev iX7_restartRun : Mi := (cX7_restartRun, RX7, 3, (some .int))
theorem ckX7_restartRun : CkM RX7 yX7_restartRun iX7_restartRun 0 := ⟨gw_all _ [1124, 1125, 71, 1126] (by decide +kernel) (by decide +kernel), by decide +kernel, by decide⟩
abbrev iX7_round : Mi := (cX7_round, RX7, 3, (some .int))
theorem ckX7_round : CkM RX7 yX7_round iX7_round 2 := ⟨gw_all _ [1033, 1034, 71, 1035] (by decide +kernel) (by decide +kernel), by decide +kernel, by decide⟩
abbrev iX7_roundOf : Mi := (cX7_roundOf, RX7, 3, (some .int))
theorem ckX7_roundOf : CkM RX7 yX7_roundOf iX7_roundOf 2 := ⟨gw_all _ [975, 41, 71, 976] (by decide +kernel) (by decide +kernel), by decide +kernel, by decide⟩
abbrev iX7_rule : Mi := (cX7_rule, RX7, 4, (some .int))
theorem ckX7_rule : CkM RX7 yX7_rule iX7_rule 2 := ⟨gw_all _ [1037, 1038, 71, 1039] (by decide +kernel) (by decide +kernel), by decide +kernel, by decide⟩
abbrev iX7_ruleFor : Mi := (cX7_ruleFor, RX7, 5, (some .int))
theorem ckX7_ruleFor : CkM RX7 yX7_ruleFor iX7_ruleFor 3 := ⟨gw_all _ [990, 44, 71, 991] (by decide +kernel) (by decide +kernel), by decide +kernel, by decide⟩
abbrev iX7_save : Mi := (cX7_save, RX7, 2, none)
theorem ckX7_save : CkM RX7 yX7_save iX7_save 0 := ⟨gw_all _ [915, 35, 71, 916] (by decide +kernel) (by decide +kernel), by decide +kernel, by decide⟩
abbrev iX7_saveAndHold : Mi := (cX7_saveAndHold, RX7, 4, (some .int))
theorem ckX7_saveAndHold : CkM RX7 yX7_saveAndHold iX7_saveAndHold 2 := ⟨gw_all _ [1109, 62, 71, 1110] (by decide +kernel) (by decide +kernel), by decide +kernel, by decide⟩
abbrev iX7_setBehaviour : Mi := (cX7_setBehaviour, RX7, 3, (some .int))
theorem ckX7_setBehaviour : CkM RX7 yX7_setBehaviour iX7_setBehaviour 2 := ⟨gw_all _ [942, 943, 71, 944] (by decide +kernel) (by decide +kernel), by decide +kernel, by decide⟩
abbrev iX7_setGroup : Mi := (cX7_setGroup, RX7, 3, (some .int))
theorem ckX7_setGroup : CkM RX7 yX7_setGroup iX7_setGroup 2 := ⟨gw_all _ [950, 951, 71, 952] (by decide +kernel) (by decide +kernel), by decide +kernel, by decide⟩
abbrev iX7_smallestRepair : Mi := (cX7_smallestRepair, RX7, 4, (some .int))
theorem ckX7_smallestRepair : CkM RX7 yX7_smallestRepair iX7_smallestRepair 0 := ⟨gw_all _ [1093, 1094, 71, 1095] (by decide +kernel) (by decide +kernel), by decide +kernel, by decide⟩
abbrev iX7_take : Mi := (cX7_take, RX7, 3, (some .int))
theorem ckX7_take : CkM RX7 yX7_take iX7_take 1 := ⟨gw_all _ [893, 31, 71, 894] (by decide +kernel) (by decide +kernel), by decide +kernel, by decide⟩
abbrev iX7_take_ : Mi := (cX7_take_, RX7, 4, (some .int))
theorem ckX7_take_ : CkM RX7 yX7_take_ iX7_take_ 3 := ⟨gw_all _ [1112, 1113, 71, 1114] (by decide +kernel) (by decide +kernel), by decide +kernel, by decide⟩
abbrev iX7_undo : Mi := (cX7_undo, RX7, 2, (some .int))
theorem ckX7_undo : CkM RX7 yX7_undo iX7_undo 0 := ⟨gw_all _ [1132, 1133, 71, 1134] (by decide +kernel) (by decide +kernel), by decide +kernel, by decide⟩
abbrev iX7_undoDepth : Mi := (cX7_undoDepth, RX7, 1, (some .int))
theorem ckX7_undoDepth : CkM RX7 yX7_undoDepth iX7_undoDepth 0 := ⟨gw_all _ [1136, 1137, 71, 1138] (by decide +kernel) (by decide +kernel), by decide +kernel, by decide⟩
abbrev iX7_userOf : Mi := (cX7_userOf, RX7, 4, (some .int))
theorem ckX7_userOf : CkM RX7 yX7_userOf iX7_userOf 2 := ⟨gw_all _ [1030, 54, 71, 1031] (by decide +kernel) (by decide +kernel), by decide +kernel, by decide⟩
abbrev iX7_violationCount : Mi := (cX7_violationCount, RX7, 1, (some .int))
theorem ckX7_violationCount : CkM RX7 yX7_violationCount iX7_violationCount 0 := ⟨gw_all _ [1085, 1086, 71, 1087] (by decide +kernel) (by decide +kernel), by decide +kernel, by decide⟩
abbrev iX7_violations : Mi := (cX7_violations, RX7, 3, (some .int))
theorem ckX7_violations : CkM RX7 yX7_violations iX7_violations 0 := ⟨gw_all _ [1090, 60, 71, 1091] (by decide +kernel) (by decide +kernel), by decide +kernel, by decide⟩
abbrev iJ0_charAt_5068e : Mi := (cJ0_charAt_5068e, RJ0, 2, (some .char))
theorem ckJ0_charAt_5068e : CkM RJ0 yJ0_charAt_5068e iJ0_charAt_5068e 1 := ⟨gw_all _ [394, 395, 73, 396] (by decide +kernel) (by decide +kernel), by decide +kernel, by decide⟩
abbrev iJ0_checkIndex_df160 : Mi := (cJ0_checkIndex_df160, RJ0, 2, none)
theorem ckJ0_checkIndex_df160 : CkS yJ0_checkIndex_df160 iJ0_checkIndex_df160 2 := ⟨gw_all _ [405, 73, 406] (by decide +kernel) (by decide +kernel), by decide +kernel, by decide⟩
abbrev iJ0_coder_7d493 : Mi := (cJ0_coder_7d493, RJ0, 1, (some .byte))
theorem ckJ0_coder_7d493 : CkM RJ0 yJ0_coder_7d493 iJ0_coder_7d493 0 := ⟨gw_all _ [388, 389, 73, 390] (by decide +kernel) (by decide +kernel), by decide +kernel, by decide⟩
abbrev iJ0_isLatin1_aae02 : Mi := (cJ0_isLatin1_aae02, RJ0, 1, (some .boolean))
theorem ckJ0_isLatin1_aae02 : CkM RJ0 yJ0_isLatin1_aae02 iJ0_isLatin1_aae02 0 := ⟨gw_all _ [398, 399, 73, 400] (by decide +kernel) (by decide +kernel), by decide +kernel, by decide⟩
abbrev iJ0_length_8abf5 : Mi := (cJ0_length_8abf5, RJ0, 1, (some .int))
theorem ckJ0_length_8abf5 : CkM RJ0 yJ0_length_8abf5 iJ0_length_8abf5 0 := ⟨gw_all _ [384, 385, 73, 386] (by decide +kernel) (by decide +kernel), by decide +kernel, by decide⟩
abbrev iJ1_charAt_3b067 : Mi := (cJ1_charAt_3b067, RJ1, 2, (some .char))
theorem ckJ1_charAt_3b067 : CkS yJ1_charAt_3b067 iJ1_charAt_3b067 2 := ⟨gw_all _ [402, 74, 403] (by decide +kernel) (by decide +kernel), by decide +kernel, by decide⟩
abbrev iJ2_charAt_3b067 : Mi := (cJ2_charAt_3b067, RJ2, 2, (some .char))
theorem ckJ2_charAt_3b067 : CkS yJ2_charAt_3b067 iJ2_charAt_3b067 2 := ⟨gw_all _ [413, 76, 414] (by decide +kernel) (by decide +kernel), by decide +kernel, by decide⟩
abbrev iJ2_checkIndex_2214a : Mi := (cJ2_checkIndex_2214a, RJ2, 2, none)
theorem ckJ2_checkIndex_2214a : CkS yJ2_checkIndex_2214a iJ2_checkIndex_2214a 2 := ⟨gw_all _ [416, 76, 417] (by decide +kernel) (by decide +kernel), by decide +kernel, by decide⟩
abbrev iJ2_getChar_3b067 : Mi := (cJ2_getChar_3b067, RJ2, 2, (some .char))
theorem ckJ2_getChar_3b067 : CkS yJ2_getChar_3b067 iJ2_getChar_3b067 2 := ⟨gw_all _ [423, 76, 424] (by decide +kernel) (by decide +kernel), by decide +kernel, by decide⟩
abbrev iJ2_length_9d52b : Mi := (cJ2_length_9d52b, RJ2, 1, (some .int))
theorem ckJ2_length_9d52b : CkS yJ2_length_9d52b iJ2_length_9d52b 1 := ⟨gw_all _ [419, 76, 420] (by decide +kernel) (by decide +kernel), by decide +kernel, by decide⟩
abbrev iJ3_checkIndex_8e157 : Mi := (cJ3_checkIndex_8e157, RJ3, 3, (some .int))
theorem ckJ3_checkIndex_8e157 : CkS yJ3_checkIndex_8e157 iJ3_checkIndex_8e157 3 := ⟨gw_all _ [410, 75, 411] (by decide +kernel) (by decide +kernel), by decide +kernel, by decide⟩
abbrev iJ6_bitCount_0f7a4 : Mi := (cJ6_bitCount_0f7a4, RJ6, 1, (some .int))
theorem ckJ6_bitCount_0f7a4 : CkS yJ6_bitCount_0f7a4 iJ6_bitCount_0f7a4 1 := ⟨gw_all _ [740, 79, 741] (by decide +kernel) (by decide +kernel), by decide +kernel, by decide⟩
abbrev iJ7_fill_53178 : Mi := (cJ7_fill_53178, RJ7, 4, none)
theorem ckJ7_fill_53178 : CkS yJ7_fill_53178 iJ7_fill_53178 2 := ⟨gw_all _ [361, 72, 362] (by decide +kernel) (by decide +kernel), by decide +kernel, by decide⟩
abbrev iJ9_min_7cf53 : Mi := (cJ9_min_7cf53, RJ9, 2, (some .int))
theorem ckJ9_min_7cf53 : CkS yJ9_min_7cf53 iJ9_min_7cf53 2 := ⟨gw_all _ [492, 78, 493] (by decide +kernel) (by decide +kernel), by decide +kernel, by decide⟩
theorem lkX6_28 : Cond.methodLink RX6 28 yX2_init ∈ GW := gw_of 174 (by decide +kernel) (by decide +kernel)
theorem lkX6_69 : Cond.methodLink RX6 69 yX5_readInto ∈ GW := gw_of 352 (by decide +kernel) (by decide +kernel)
theorem lkX6_73 : Cond.methodLink RX6 73 yX6_saveState ∈ GW := gw_of 476 (by decide +kernel) (by decide +kernel)
theorem lkX6_76 : Cond.methodLink RX6 76 yX4_copyFrom ∈ GW := gw_of 494 (by decide +kernel) (by decide +kernel)
theorem lkX6_80 : Cond.methodLink RX6 80 yX4_startRun ∈ GW := gw_of 495 (by decide +kernel) (by decide +kernel)
theorem lkX6_86 : Cond.methodLink RX6 86 yX4_has ∈ GW := gw_of 518 (by decide +kernel) (by decide +kernel)
theorem lkX6_93 : Cond.methodLink RX6 93 yX4_isAgent ∈ GW := gw_of 523 (by decide +kernel) (by decide +kernel)
theorem lkX6_102 : Cond.methodLink RX6 102 yX4_canHold ∈ GW := gw_of 536 (by decide +kernel) (by decide +kernel)
theorem lkX6_105 : Cond.methodLink RX6 105 yX4_listsReference ∈ GW := gw_of 537 (by decide +kernel) (by decide +kernel)
theorem lkX6_112 : Cond.methodLink RX6 112 yX4_listReference ∈ GW := gw_of 538 (by decide +kernel) (by decide +kernel)
theorem lkX6_116 : Cond.methodLink RX6 116 yX4_unlistReference ∈ GW := gw_of 543 (by decide +kernel) (by decide +kernel)
theorem lkX6_120 : Cond.methodLink RX6 120 yX4_hasBoth ∈ GW := gw_of 555 (by decide +kernel) (by decide +kernel)
theorem lkX6_123 : Cond.methodLink RX6 123 yX6_refreshAnalysis ∈ GW := gw_of 559 (by decide +kernel) (by decide +kernel)
theorem lkX6_129 : Cond.methodLink RX6 129 yX6_contains ∈ GW := gw_of 617 (by decide +kernel) (by decide +kernel)
theorem lkX6_135 : Cond.methodLink RX6 135 yX6_pair ∈ GW := gw_of 669 (by decide +kernel) (by decide +kernel)
theorem lkX6_145 : Cond.methodLink RX6 145 yX0_countDerived ∈ GW := gw_of 682 (by decide +kernel) (by decide +kernel)
theorem lkX6_153 : Cond.methodLink RX6 153 yX4_findRequirement ∈ GW := gw_of 702 (by decide +kernel) (by decide +kernel)
theorem lkX6_159 : Cond.methodLink RX6 159 yX4_addRequirement ∈ GW := gw_of 706 (by decide +kernel) (by decide +kernel)
theorem lkX6_162 : Cond.methodLink RX6 162 yX4_dropRequirement ∈ GW := gw_of 714 (by decide +kernel) (by decide +kernel)
theorem lkX6_165 : Cond.methodLink RX6 165 yX4_countViolations ∈ GW := gw_of 722 (by decide +kernel) (by decide +kernel)
theorem lkX6_169 : Cond.methodLink RX6 169 yX6_findNeeded ∈ GW := gw_of 730 (by decide +kernel) (by decide +kernel)
theorem lkX6_172 : Cond.methodLink RX6 172 yJ6_bitCount_0f7a4 ∈ GW := gw_of 739 (by decide +kernel) (by decide +kernel)
theorem lkX6_177 : Cond.methodLink RX6 177 yX6_isRepair ∈ GW := gw_of 735 (by decide +kernel) (by decide +kernel)
theorem lkX6_180 : Cond.methodLink RX6 180 yX4_isAgentWith ∈ GW := gw_of 749 (by decide +kernel) (by decide +kernel)
theorem lkX6_183 : Cond.methodLink RX6 183 yX4_runHolds ∈ GW := gw_of 750 (by decide +kernel) (by decide +kernel)
theorem lkX6_186 : Cond.methodLink RX6 186 yX6_bit ∈ GW := gw_of 734 (by decide +kernel) (by decide +kernel)
theorem lkX6_189 : Cond.methodLink RX6 189 yX4_addToRun ∈ GW := gw_of 754 (by decide +kernel) (by decide +kernel)
theorem lkX6_192 : Cond.methodLink RX6 192 yX4_fits ∈ GW := gw_of 767 (by decide +kernel) (by decide +kernel)
theorem lkX6_198 : Cond.methodLink RX6 198 yX4_isOfKind ∈ GW := gw_of 772 (by decide +kernel) (by decide +kernel)
theorem lkX6_204 : Cond.methodLink RX6 204 yX4_countRun ∈ GW := gw_of 777 (by decide +kernel) (by decide +kernel)
theorem lkX6_211 : Cond.methodLink RX6 211 yX2_restoreInto ∈ GW := gw_of 789 (by decide +kernel) (by decide +kernel)
theorem lkX6_214 : Cond.methodLink RX6 214 yX2_save ∈ GW := gw_of 480 (by decide +kernel) (by decide +kernel)
theorem lkX6_217 : Cond.methodLink RX6 217 yX3_readFrom ∈ GW := gw_of 563 (by decide +kernel) (by decide +kernel)
theorem lkX6_220 : Cond.methodLink RX6 220 yX0_findAll ∈ GW := gw_of 591 (by decide +kernel) (by decide +kernel)
theorem lkX6_224 : Cond.methodLink RX6 224 yX1_start ∈ GW := gw_of 638 (by decide +kernel) (by decide +kernel)
theorem lkX6_228 : Cond.methodLink RX6 228 yX1_close ∈ GW := gw_of 643 (by decide +kernel) (by decide +kernel)
theorem lkX0_46 : Cond.methodLink RX0 46 yJ7_fill_53178 ∈ GW := gw_of 595 (by decide +kernel) (by decide +kernel)
theorem lkX0_52 : Cond.methodLink RX0 52 yX4_fillInitialRows ∈ GW := gw_of 596 (by decide +kernel) (by decide +kernel)
theorem lkX0_62 : Cond.methodLink RX0 62 yX0_findInitial ∈ GW := gw_of 597 (by decide +kernel) (by decide +kernel)
theorem lkX0_66 : Cond.methodLink RX0 66 yX0_findRound ∈ GW := gw_of 606 (by decide +kernel) (by decide +kernel)
theorem lkX0_82 : Cond.methodLink RX0 82 yX0_findGift ∈ GW := gw_of 610 (by decide +kernel) (by decide +kernel)
theorem lkX0_86 : Cond.methodLink RX0 86 yX0_findTaking ∈ GW := gw_of 622 (by decide +kernel) (by decide +kernel)
theorem lkX0_89 : Cond.methodLink RX0 89 yX0_findEndowment ∈ GW := gw_of 630 (by decide +kernel) (by decide +kernel)
theorem lkX0_92 : Cond.methodLink RX0 92 yX0_publish ∈ GW := gw_of 634 (by decide +kernel) (by decide +kernel)
theorem lkX0_105 : Cond.methodLink RX0 105 yX0_setCause ∈ GW := gw_of 618 (by decide +kernel) (by decide +kernel)
theorem lkX0_115 : Cond.methodLink RX0 115 yX0_findOpenBox ∈ GW := gw_of 626 (by decide +kernel) (by decide +kernel)
theorem lkX0_128 : Cond.methodLink RX0 128 yX0_enqueue ∈ GW := gw_of 686 (by decide +kernel) (by decide +kernel)
theorem lkX1_19 : Cond.methodLink RX1 19 yX4_fillInitialRows ∈ GW := gw_of 642 (by decide +kernel) (by decide +kernel)
theorem lkX1_31 : Cond.methodLink RX1 31 yX1_applyRules ∈ GW := gw_of 647 (by decide +kernel) (by decide +kernel)
theorem lkX1_35 : Cond.methodLink RX1 35 yX1_merge ∈ GW := gw_of 661 (by decide +kernel) (by decide +kernel)
theorem lkX1_55 : Cond.methodLink RX1 55 yX1_grant ∈ GW := gw_of 653 (by decide +kernel) (by decide +kernel)
theorem lkX1_59 : Cond.methodLink RX1 59 yX1_takeFrom ∈ GW := gw_of 657 (by decide +kernel) (by decide +kernel)
theorem lkX2_25 : Cond.methodLink RX2 25 yX4_copyFrom ∈ GW := gw_of 484 (by decide +kernel) (by decide +kernel)
theorem lkX2_29 : Cond.methodLink RX2 29 yJ9_min_7cf53 ∈ GW := gw_of 491 (by decide +kernel) (by decide +kernel)
theorem lkX3_52 : Cond.methodLink RX3 52 yX3_agentsWith ∈ GW := gw_of 567 (by decide +kernel) (by decide +kernel)
theorem lkX3_56 : Cond.methodLink RX3 56 yJ7_fill_53178 ∈ GW := gw_of 576 (by decide +kernel) (by decide +kernel)
theorem lkX3_62 : Cond.methodLink RX3 62 yX3_readObject ∈ GW := gw_of 577 (by decide +kernel) (by decide +kernel)
theorem lkX3_67 : Cond.methodLink RX3 67 yX4_isOfKind ∈ GW := gw_of 581 (by decide +kernel) (by decide +kernel)
theorem lkX3_75 : Cond.methodLink RX3 75 yX4_canHold ∈ GW := gw_of 585 (by decide +kernel) (by decide +kernel)
theorem lkX3_79 : Cond.methodLink RX3 79 yX4_fits ∈ GW := gw_of 586 (by decide +kernel) (by decide +kernel)
theorem lkX3_85 : Cond.methodLink RX3 85 yX4_isAgentWith ∈ GW := gw_of 570 (by decide +kernel) (by decide +kernel)
theorem lkX4_49 : Cond.methodLink RX4 49 yJ7_fill_53178 ∈ GW := gw_of 360 (by decide +kernel) (by decide +kernel)
theorem lkX4_61 : Cond.methodLink RX4 61 yX4_has ∈ GW := gw_of 455 (by decide +kernel) (by decide +kernel)
theorem lkX4_65 : Cond.methodLink RX4 65 yX4_isAgent ∈ GW := gw_of 574 (by decide +kernel) (by decide +kernel)
theorem lkX4_68 : Cond.methodLink RX4 68 yX4_isOfKind ∈ GW := gw_of 590 (by decide +kernel) (by decide +kernel)
theorem lkX4_79 : Cond.methodLink RX4 79 yX4_fillInitialRows ∈ GW := gw_of 499 (by decide +kernel) (by decide +kernel)
theorem lkX4_82 : Cond.methodLink RX4 82 yJ6_bitCount_0f7a4 ∈ GW := gw_of 758 (by decide +kernel) (by decide +kernel)
theorem lkX5_31 : Cond.methodLink RX5 31 yX4_reset ∈ GW := gw_of 356 (by decide +kernel) (by decide +kernel)
theorem lkX5_36 : Cond.methodLink RX5 36 yX5_advance ∈ GW := gw_of 363 (by decide +kernel) (by decide +kernel)
theorem lkX5_39 : Cond.methodLink RX5 39 yX5_readStatement ∈ GW := gw_of 370 (by decide +kernel) (by decide +kernel)
theorem lkX5_43 : Cond.methodLink RX5 43 yX5_findStatement ∈ GW := gw_of 374 (by decide +kernel) (by decide +kernel)
theorem lkX5_47 : Cond.methodLink RX5 47 yX5_isFull ∈ GW := gw_of 435 (by decide +kernel) (by decide +kernel)
theorem lkX5_51 : Cond.methodLink RX5 51 yX5_numberValue ∈ GW := gw_of 439 (by decide +kernel) (by decide +kernel)
theorem lkX5_54 : Cond.methodLink RX5 54 yX5_accepts ∈ GW := gw_of 443 (by decide +kernel) (by decide +kernel)
theorem lkX5_58 : Cond.methodLink RX5 58 yX5_perform ∈ GW := gw_of 464 (by decide +kernel) (by decide +kernel)
theorem lkX5_68 : Cond.methodLink RX5 68 yX4_has ∈ GW := gw_of 447 (by decide +kernel) (by decide +kernel)
theorem lkX5_72 : Cond.methodLink RX5 72 yX4_isAgent ∈ GW := gw_of 451 (by decide +kernel) (by decide +kernel)
theorem lkX5_75 : Cond.methodLink RX5 75 yX4_canHold ∈ GW := gw_of 456 (by decide +kernel) (by decide +kernel)
theorem lkX5_78 : Cond.methodLink RX5 78 yX4_listsReference ∈ GW := gw_of 460 (by decide +kernel) (by decide +kernel)
theorem lkX5_82 : Cond.methodLink RX5 82 yX4_declareObject ∈ GW := gw_of 468 (by decide +kernel) (by decide +kernel)
theorem lkX5_86 : Cond.methodLink RX5 86 yX4_listReference ∈ GW := gw_of 472 (by decide +kernel) (by decide +kernel)
theorem lkX5_92 : Cond.methodLink RX5 92 yX5_tokenIs ∈ GW := gw_of 379 (by decide +kernel) (by decide +kernel)
theorem lkX5_104 : Cond.methodLink RX5 104 yJ0_length_8abf5 ∈ GW := gw_of 383 (by decide +kernel) (by decide +kernel)
theorem lkX5_108 : Cond.methodLink RX5 108 yJ0_charAt_5068e ∈ GW := gw_of 393 (by decide +kernel) (by decide +kernel)
theorem lkX5_112 : Cond.methodLink RX5 112 yX5_typeOf ∈ GW := gw_of 367 (by decide +kernel) (by decide +kernel)
theorem lkX7_45 : Cond.methodLink RX7 45 yX7_isLetter ∈ GW := gw_of 883 (by decide +kernel) (by decide +kernel)
theorem lkX7_49 : Cond.methodLink RX7 49 yX7_characterAt ∈ GW := gw_of 875 (by decide +kernel) (by decide +kernel)
theorem lkX7_56 : Cond.methodLink RX7 56 yX7_in ∈ GW := gw_of 860 (by decide +kernel) (by decide +kernel)
theorem lkX7_60 : Cond.methodLink RX7 60 yX7_keyword ∈ GW := gw_of 879 (by decide +kernel) (by decide +kernel)
theorem lkX7_70 : Cond.methodLink RX7 70 yX7_isFine ∈ GW := gw_of 887 (by decide +kernel) (by decide +kernel)
theorem lkX7_74 : Cond.methodLink RX7 74 yX7_advance ∈ GW := gw_of 871 (by decide +kernel) (by decide +kernel)
theorem lkX7_77 : Cond.methodLink RX7 77 yX7_take ∈ GW := gw_of 891 (by decide +kernel) (by decide +kernel)
theorem lkX7_81 : Cond.methodLink RX7 81 yX7_number ∈ GW := gw_of 909 (by decide +kernel) (by decide +kernel)
theorem lkX7_84 : Cond.methodLink RX7 84 yX7_isHolder ∈ GW := gw_of 899 (by decide +kernel) (by decide +kernel)
theorem lkX7_88 : Cond.methodLink RX7 88 yX7_indexOf ∈ GW := gw_of 902 (by decide +kernel) (by decide +kernel)
theorem lkX7_92 : Cond.methodLink RX7 92 yX7_readHold ∈ GW := gw_of 895 (by decide +kernel) (by decide +kernel)
theorem lkX7_95 : Cond.methodLink RX7 95 yX7_readObject ∈ GW := gw_of 905 (by decide +kernel) (by decide +kernel)
theorem lkX7_99 : Cond.methodLink RX7 99 yX7_save ∈ GW := gw_of 913 (by decide +kernel) (by decide +kernel)
theorem lkX7_102 : Cond.methodLink RX7 102 yX7_beginRun ∈ GW := gw_of 917 (by decide +kernel) (by decide +kernel)
theorem lkX7_108 : Cond.methodLink RX7 108 yX7_isObject ∈ GW := gw_of 929 (by decide +kernel) (by decide +kernel)
theorem lkX7_112 : Cond.methodLink RX7 112 yX7_isOf ∈ GW := gw_of 937 (by decide +kernel) (by decide +kernel)
theorem lkX7_115 : Cond.methodLink RX7 115 yX7_change ∈ GW := gw_of 945 (by decide +kernel) (by decide +kernel)
theorem lkX7_119 : Cond.methodLink RX7 119 yX7_does ∈ GW := gw_of 1000 (by decide +kernel) (by decide +kernel)
theorem lkX7_122 : Cond.methodLink RX7 122 yX7_isFound ∈ GW := gw_of 1004 (by decide +kernel) (by decide +kernel)
theorem lkX7_125 : Cond.methodLink RX7 125 yX7_keyOf ∈ GW := gw_of 1016 (by decide +kernel) (by decide +kernel)
theorem lkX7_129 : Cond.methodLink RX7 129 yX7_userOf ∈ GW := gw_of 1028 (by decide +kernel) (by decide +kernel)
theorem lkX7_132 : Cond.methodLink RX7 132 yX7_giver ∈ GW := gw_of 996 (by decide +kernel) (by decide +kernel)
theorem lkX7_135 : Cond.methodLink RX7 135 yX7_answerer ∈ GW := gw_of 1008 (by decide +kernel) (by decide +kernel)
theorem lkX7_138 : Cond.methodLink RX7 138 yX7_openedBox ∈ GW := gw_of 1012 (by decide +kernel) (by decide +kernel)
theorem lkX7_141 : Cond.methodLink RX7 141 yX7_creator ∈ GW := gw_of 1020 (by decide +kernel) (by decide +kernel)
theorem lkX7_144 : Cond.methodLink RX7 144 yX7_endower ∈ GW := gw_of 1024 (by decide +kernel) (by decide +kernel)
theorem lkX7_147 : Cond.methodLink RX7 147 yX7_partnerBy ∈ GW := gw_of 992 (by decide +kernel) (by decide +kernel)
theorem lkX7_151 : Cond.methodLink RX7 151 yX7_has ∈ GW := gw_of 981 (by decide +kernel) (by decide +kernel)
theorem lkX7_157 : Cond.methodLink RX7 157 yX7_findRound ∈ GW := gw_of 984 (by decide +kernel) (by decide +kernel)
theorem lkX7_160 : Cond.methodLink RX7 160 yX7_ruleFor ∈ GW := gw_of 988 (by decide +kernel) (by decide +kernel)
theorem lkX7_163 : Cond.methodLink RX7 163 yX7_analyse ∈ GW := gw_of 977 (by decide +kernel) (by decide +kernel)
theorem lkX7_166 : Cond.methodLink RX7 166 yX7_areObjects ∈ GW := gw_of 969 (by decide +kernel) (by decide +kernel)
theorem lkX7_169 : Cond.methodLink RX7 169 yX7_roundOf ∈ GW := gw_of 973 (by decide +kernel) (by decide +kernel)
theorem lkX7_175 : Cond.methodLink RX7 175 yX7_derive ∈ GW := gw_of 1048 (by decide +kernel) (by decide +kernel)
theorem lkX7_179 : Cond.methodLink RX7 179 yX7_derivePremises ∈ GW := gw_of 1052 (by decide +kernel) (by decide +kernel)
theorem lkX7_182 : Cond.methodLink RX7 182 yX7_mergeGroups ∈ GW := gw_of 1068 (by decide +kernel) (by decide +kernel)
theorem lkX7_185 : Cond.methodLink RX7 185 yX7_merge ∈ GW := gw_of 1064 (by decide +kernel) (by decide +kernel)
theorem lkX7_188 : Cond.methodLink RX7 188 yX7_requirementOf ∈ GW := gw_of 1076 (by decide +kernel) (by decide +kernel)
theorem lkX7_191 : Cond.methodLink RX7 191 yX7_violations ∈ GW := gw_of 1088 (by decide +kernel) (by decide +kernel)
theorem lkX7_194 : Cond.methodLink RX7 194 yX7_bitCount ∈ GW := gw_of 1096 (by decide +kernel) (by decide +kernel)
theorem lkX7_197 : Cond.methodLink RX7 197 yX7_holds ∈ GW := gw_of 1103 (by decide +kernel) (by decide +kernel)
theorem lkX7_200 : Cond.methodLink RX7 200 yX7_saveAndHold ∈ GW := gw_of 1107 (by decide +kernel) (by decide +kernel)
theorem lkJ0_335 : Cond.methodLink RJ0 335 yJ0_coder_7d493 ∈ GW := gw_of 387 (by decide +kernel) (by decide +kernel)
theorem lkJ0_492 : Cond.methodLink RJ0 492 yJ0_isLatin1_aae02 ∈ GW := gw_of 397 (by decide +kernel) (by decide +kernel)
theorem lkJ0_495 : Cond.methodLink RJ0 495 yJ1_charAt_3b067 ∈ GW := gw_of 401 (by decide +kernel) (by decide +kernel)
theorem lkJ0_498 : Cond.methodLink RJ0 498 yJ2_charAt_3b067 ∈ GW := gw_of 412 (by decide +kernel) (by decide +kernel)
theorem lkJ0_1059 : Cond.methodLink RJ0 1059 yJ3_checkIndex_8e157 ∈ GW := gw_of 409 (by decide +kernel) (by decide +kernel)
theorem lkJ1_9 : Cond.methodLink RJ1 9 yJ0_checkIndex_df160 ∈ GW := gw_of 404 (by decide +kernel) (by decide +kernel)
theorem lkJ2_48 : Cond.methodLink RJ2 48 yJ2_length_9d52b ∈ GW := gw_of 418 (by decide +kernel) (by decide +kernel)
theorem lkJ2_67 : Cond.methodLink RJ2 67 yJ2_checkIndex_2214a ∈ GW := gw_of 415 (by decide +kernel) (by decide +kernel)
theorem lkJ2_71 : Cond.methodLink RJ2 71 yJ2_getChar_3b067 ∈ GW := gw_of 422 (by decide +kernel) (by decide +kernel)
theorem lkJ2_414 : Cond.methodLink RJ2 414 yJ0_checkIndex_df160 ∈ GW := gw_of 421 (by decide +kernel) (by decide +kernel)
theorem nkX6_11 : (RX6, 11, yX5_init, "ConfinementAnalyzer") ∈ nestL := List.mem_filterMap.mpr ⟨.methodLinkNest RX6 11 yX5_init "ConfinementAnalyzer", List.mem_of_getElem? (i := 90) (by decide +kernel), rfl⟩
theorem nkX6_18 : (RX6, 18, yX4_init, "ConfinementAnalyzer") ∈ nestL := List.mem_filterMap.mpr ⟨.methodLinkNest RX6 18 yX4_init "ConfinementAnalyzer", List.mem_of_getElem? (i := 118) (by decide +kernel), rfl⟩
theorem nkX6_35 : (RX6, 35, yX3_init, "ConfinementAnalyzer") ∈ nestL := List.mem_filterMap.mpr ⟨.methodLinkNest RX6 35 yX3_init "ConfinementAnalyzer", List.mem_of_getElem? (i := 194) (by decide +kernel), rfl⟩
theorem nkX6_42 : (RX6, 42, yX0_init, "ConfinementAnalyzer") ∈ nestL := List.mem_filterMap.mpr ⟨.methodLinkNest RX6 42 yX0_init "ConfinementAnalyzer", List.mem_of_getElem? (i := 255) (by decide +kernel), rfl⟩
theorem nkX6_49 : (RX6, 49, yX1_init, "ConfinementAnalyzer") ∈ nestL := List.mem_filterMap.mpr ⟨.methodLinkNest RX6 49 yX1_init "ConfinementAnalyzer", List.mem_of_getElem? (i := 300) (by decide +kernel), rfl⟩
theorem nkX0_70 : (RX0, 70, yX6_contains, "ConfinementAnalyzer") ∈ nestL := List.mem_filterMap.mpr ⟨.methodLinkNest RX0 70 yX6_contains "ConfinementAnalyzer", List.mem_of_getElem? (i := 601) (by decide +kernel), rfl⟩
theorem nkX0_74 : (RX0, 74, yX6_pair, "ConfinementAnalyzer") ∈ nestL := List.mem_filterMap.mpr ⟨.methodLinkNest RX0 74 yX6_pair "ConfinementAnalyzer", List.mem_of_getElem? (i := 602) (by decide +kernel), rfl⟩
theorem nkX0_78 : (RX0, 78, yX6_bit, "ConfinementAnalyzer") ∈ nestL := List.mem_filterMap.mpr ⟨.methodLinkNest RX0 78 yX6_bit "ConfinementAnalyzer", List.mem_of_getElem? (i := 605) (by decide +kernel), rfl⟩
theorem nkX0_102 : (RX0, 102, yX6_lowest, "ConfinementAnalyzer") ∈ nestL := List.mem_filterMap.mpr ⟨.methodLinkNest RX0 102 yX6_lowest "ConfinementAnalyzer", List.mem_of_getElem? (i := 614) (by decide +kernel), rfl⟩
theorem nkX1_41 : (RX1, 41, yX6_contains, "ConfinementAnalyzer") ∈ nestL := List.mem_filterMap.mpr ⟨.methodLinkNest RX1 41 yX6_contains "ConfinementAnalyzer", List.mem_of_getElem? (i := 651) (by decide +kernel), rfl⟩
theorem nkX1_51 : (RX1, 51, yX6_bit, "ConfinementAnalyzer") ∈ nestL := List.mem_filterMap.mpr ⟨.methodLinkNest RX1 51 yX6_bit "ConfinementAnalyzer", List.mem_of_getElem? (i := 652) (by decide +kernel), rfl⟩
theorem nkX2_24 : (RX2, 24, yX4_init, "ConfinementAnalyzer") ∈ nestL := List.mem_filterMap.mpr ⟨.methodLinkNest RX2 24 yX4_init "ConfinementAnalyzer", List.mem_of_getElem? (i := 180) (by decide +kernel), rfl⟩
theorem nkX3_71 : (RX3, 71, yX6_bit, "ConfinementAnalyzer") ∈ nestL := List.mem_filterMap.mpr ⟨.methodLinkNest RX3 71 yX6_bit "ConfinementAnalyzer", List.mem_of_getElem? (i := 575) (by decide +kernel), rfl⟩
theorem nkX4_72 : (RX4, 72, yX6_contains, "ConfinementAnalyzer") ∈ nestL := List.mem_filterMap.mpr ⟨.methodLinkNest RX4 72 yX6_contains "ConfinementAnalyzer", List.mem_of_getElem? (i := 503) (by decide +kernel), rfl⟩
theorem nkX4_75 : (RX4, 75, yX6_bit, "ConfinementAnalyzer") ∈ nestL := List.mem_filterMap.mpr ⟨.methodLinkNest RX4 75 yX6_bit "ConfinementAnalyzer", List.mem_of_getElem? (i := 506) (by decide +kernel), rfl⟩
theorem fkX6_12 : FOk RX6 12 6 0 := ⟨RX6, TX6, 9, rfl, by decide, inG6, gw_of 312 (by decide +kernel) (by decide +kernel)⟩
theorem fkX6_19 : FOk RX6 19 6 1 := ⟨RX6, TX6, 9, rfl, by decide, inG6, gw_of 313 (by decide +kernel) (by decide +kernel)⟩
theorem fkX6_23 : FOk RX6 23 6 2 := ⟨RX6, TX6, 9, rfl, by decide, inG6, gw_of 314 (by decide +kernel) (by decide +kernel)⟩
theorem fkX6_29 : FOk RX6 29 6 3 := ⟨RX6, TX6, 9, rfl, by decide, inG6, gw_of 315 (by decide +kernel) (by decide +kernel)⟩
theorem fkX6_36 : FOk RX6 36 6 4 := ⟨RX6, TX6, 9, rfl, by decide, inG6, gw_of 316 (by decide +kernel) (by decide +kernel)⟩
theorem fkX6_43 : FOk RX6 43 6 5 := ⟨RX6, TX6, 9, rfl, by decide, inG6, gw_of 317 (by decide +kernel) (by decide +kernel)⟩
theorem fkX6_50 : FOk RX6 50 6 6 := ⟨RX6, TX6, 9, rfl, by decide, inG6, gw_of 318 (by decide +kernel) (by decide +kernel)⟩
theorem fkX6_54 : FOk RX6 54 6 7 := ⟨RX6, TX6, 9, rfl, by decide, inG6, gw_of 319 (by decide +kernel) (by decide +kernel)⟩
theorem fkX6_57 : FOk RX6 57 6 8 := ⟨RX6, TX6, 9, rfl, by decide, inG6, gw_of 320 (by decide +kernel) (by decide +kernel)⟩
theorem fpX6_57 : FPok RX6 57 6 8 .boolean := ⟨RX6, TX6, 9, tyX6, rfl, by decide, inG6, gw_of 320 (by decide +kernel) (by decide +kernel), tyX6_ok, nmX6, by decide +kernel, by decide +kernel⟩
theorem fkX6_61 : FOk RX6 61 5 1 := ⟨RX5, TX5, 6, rfl, by decide, inG5, gw_of 97 (by decide +kernel) (by decide +kernel)⟩
theorem fpX6_61 : FPok RX6 61 5 1 .int := ⟨RX5, TX5, 6, tyX5, rfl, by decide, inG5, gw_of 97 (by decide +kernel) (by decide +kernel), tyX5_ok, nmX5, by decide +kernel, by decide +kernel⟩
theorem fkX6_65 : FOk RX6 65 5 0 := ⟨RX5, TX5, 6, rfl, by decide, inG5, gw_of 95 (by decide +kernel) (by decide +kernel)⟩
theorem fkX6_83 : FOk RX6 83 4 0 := ⟨RX4, TX4, 12, rfl, by decide, inG4, gw_of 125 (by decide +kernel) (by decide +kernel)⟩
theorem fpX6_83 : FPok RX6 83 4 0 .int := ⟨RX4, TX4, 12, tyX4, rfl, by decide, inG4, gw_of 125 (by decide +kernel) (by decide +kernel), tyX4_ok, nmX4, by decide +kernel, by decide +kernel⟩
theorem fkX6_90 : FOk RX6 90 4 1 := ⟨RX4, TX4, 12, rfl, by decide, inG4, gw_of 127 (by decide +kernel) (by decide +kernel)⟩
theorem fkX6_96 : FOk RX6 96 4 2 := ⟨RX4, TX4, 12, rfl, by decide, inG4, gw_of 129 (by decide +kernel) (by decide +kernel)⟩
theorem fkX6_99 : FOk RX6 99 4 4 := ⟨RX4, TX4, 12, rfl, by decide, inG4, gw_of 135 (by decide +kernel) (by decide +kernel)⟩
theorem fkX6_109 : FOk RX6 109 4 5 := ⟨RX4, TX4, 12, rfl, by decide, inG4, gw_of 138 (by decide +kernel) (by decide +kernel)⟩
theorem fpX6_109 : FPok RX6 109 4 5 .int := ⟨RX4, TX4, 12, tyX4, rfl, by decide, inG4, gw_of 138 (by decide +kernel) (by decide +kernel), tyX4_ok, nmX4, by decide +kernel, by decide +kernel⟩
theorem fkX6_126 : FOk RX6 126 0 0 := ⟨RX0, TX0, 11, rfl, by decide, inG0, gw_of 260 (by decide +kernel) (by decide +kernel)⟩
theorem fkX6_132 : FOk RX6 132 0 2 := ⟨RX0, TX0, 11, rfl, by decide, inG0, gw_of 263 (by decide +kernel) (by decide +kernel)⟩
theorem fkX6_139 : FOk RX6 139 0 3 := ⟨RX0, TX0, 11, rfl, by decide, inG0, gw_of 265 (by decide +kernel) (by decide +kernel)⟩
theorem fkX6_142 : FOk RX6 142 0 4 := ⟨RX0, TX0, 11, rfl, by decide, inG0, gw_of 267 (by decide +kernel) (by decide +kernel)⟩
theorem fkX6_149 : FOk RX6 149 0 7 := ⟨RX0, TX0, 11, rfl, by decide, inG0, gw_of 271 (by decide +kernel) (by decide +kernel)⟩
theorem fpX6_149 : FPok RX6 149 0 7 .int := ⟨RX0, TX0, 11, tyX0, rfl, by decide, inG0, gw_of 271 (by decide +kernel) (by decide +kernel), tyX0_ok, nmX0, by decide +kernel, by decide +kernel⟩
theorem fkX6_152 : FOk RX6 152 1 0 := ⟨RX1, TX1, 2, rfl, by decide, inG1, gw_of 305 (by decide +kernel) (by decide +kernel)⟩
theorem fkX6_156 : FOk RX6 156 4 8 := ⟨RX4, TX4, 12, rfl, by decide, inG4, gw_of 142 (by decide +kernel) (by decide +kernel)⟩
theorem fpX6_156 : FPok RX6 156 4 8 .int := ⟨RX4, TX4, 12, tyX4, rfl, by decide, inG4, gw_of 142 (by decide +kernel) (by decide +kernel), tyX4_ok, nmX4, by decide +kernel, by decide +kernel⟩
theorem fkX6_195 : FOk RX6 195 4 3 := ⟨RX4, TX4, 12, rfl, by decide, inG4, gw_of 132 (by decide +kernel) (by decide +kernel)⟩
theorem fkX6_201 : FOk RX6 201 4 11 := ⟨RX4, TX4, 12, rfl, by decide, inG4, gw_of 146 (by decide +kernel) (by decide +kernel)⟩
theorem fkX6_208 : FOk RX6 208 2 2 := ⟨RX2, TX2, 3, rfl, by decide, inG2, gw_of 184 (by decide +kernel) (by decide +kernel)⟩
theorem fpX6_208 : FPok RX6 208 2 2 .int := ⟨RX2, TX2, 3, tyX2, rfl, by decide, inG2, gw_of 184 (by decide +kernel) (by decide +kernel), tyX2_ok, nmX2, by decide +kernel, by decide +kernel⟩
theorem fkX0_9 : FOk RX0 9 0 0 := ⟨RX0, TX0, 11, rfl, by decide, inG0, gw_of 259 (by decide +kernel) (by decide +kernel)⟩
theorem fkX0_15 : FOk RX0 15 0 1 := ⟨RX0, TX0, 11, rfl, by decide, inG0, gw_of 261 (by decide +kernel) (by decide +kernel)⟩
theorem fkX0_18 : FOk RX0 18 0 2 := ⟨RX0, TX0, 11, rfl, by decide, inG0, gw_of 262 (by decide +kernel) (by decide +kernel)⟩
theorem fkX0_21 : FOk RX0 21 0 3 := ⟨RX0, TX0, 11, rfl, by decide, inG0, gw_of 264 (by decide +kernel) (by decide +kernel)⟩
theorem fkX0_24 : FOk RX0 24 0 4 := ⟨RX0, TX0, 11, rfl, by decide, inG0, gw_of 266 (by decide +kernel) (by decide +kernel)⟩
theorem fkX0_27 : FOk RX0 27 0 5 := ⟨RX0, TX0, 11, rfl, by decide, inG0, gw_of 268 (by decide +kernel) (by decide +kernel)⟩
theorem fkX0_30 : FOk RX0 30 0 6 := ⟨RX0, TX0, 11, rfl, by decide, inG0, gw_of 269 (by decide +kernel) (by decide +kernel)⟩
theorem fkX0_33 : FOk RX0 33 0 7 := ⟨RX0, TX0, 11, rfl, by decide, inG0, gw_of 270 (by decide +kernel) (by decide +kernel)⟩
theorem fpX0_33 : FPok RX0 33 0 7 .int := ⟨RX0, TX0, 11, tyX0, rfl, by decide, inG0, gw_of 270 (by decide +kernel) (by decide +kernel), tyX0_ok, nmX0, by decide +kernel, by decide +kernel⟩
theorem fkX0_37 : FOk RX0 37 0 8 := ⟨RX0, TX0, 11, rfl, by decide, inG0, gw_of 272 (by decide +kernel) (by decide +kernel)⟩
theorem fkX0_40 : FOk RX0 40 0 9 := ⟨RX0, TX0, 11, rfl, by decide, inG0, gw_of 273 (by decide +kernel) (by decide +kernel)⟩
theorem fkX0_43 : FOk RX0 43 0 10 := ⟨RX0, TX0, 11, rfl, by decide, inG0, gw_of 274 (by decide +kernel) (by decide +kernel)⟩
theorem fpX0_43 : FPok RX0 43 0 10 .int := ⟨RX0, TX0, 11, tyX0, rfl, by decide, inG0, gw_of 274 (by decide +kernel) (by decide +kernel), tyX0_ok, nmX0, by decide +kernel, by decide +kernel⟩
theorem fkX0_57 : FOk RX0 57 3 0 := ⟨RX3, TX3, 12, rfl, by decide, inG3, gw_of 199 (by decide +kernel) (by decide +kernel)⟩
theorem fpX0_57 : FPok RX0 57 3 0 .int := ⟨RX3, TX3, 12, tyX3, rfl, by decide, inG3, gw_of 199 (by decide +kernel) (by decide +kernel), tyX3_ok, nmX3, by decide +kernel, by decide +kernel⟩
theorem fkX0_96 : FOk RX0 96 3 3 := ⟨RX3, TX3, 12, rfl, by decide, inG3, gw_of 209 (by decide +kernel) (by decide +kernel)⟩
theorem fpX0_96 : FPok RX0 96 3 3 .int := ⟨RX3, TX3, 12, tyX3, rfl, by decide, inG3, gw_of 209 (by decide +kernel) (by decide +kernel), tyX3_ok, nmX3, by decide +kernel, by decide +kernel⟩
theorem fkX0_99 : FOk RX0 99 3 1 := ⟨RX3, TX3, 12, rfl, by decide, inG3, gw_of 203 (by decide +kernel) (by decide +kernel)⟩
theorem fpX0_99 : FPok RX0 99 3 1 .int := ⟨RX3, TX3, 12, tyX3, rfl, by decide, inG3, gw_of 203 (by decide +kernel) (by decide +kernel), tyX3_ok, nmX3, by decide +kernel, by decide +kernel⟩
theorem fkX0_109 : FOk RX0 109 3 2 := ⟨RX3, TX3, 12, rfl, by decide, inG3, gw_of 206 (by decide +kernel) (by decide +kernel)⟩
theorem fpX0_109 : FPok RX0 109 3 2 .int := ⟨RX3, TX3, 12, tyX3, rfl, by decide, inG3, gw_of 206 (by decide +kernel) (by decide +kernel), tyX3_ok, nmX3, by decide +kernel, by decide +kernel⟩
theorem fkX0_112 : FOk RX0 112 3 4 := ⟨RX3, TX3, 12, rfl, by decide, inG3, gw_of 212 (by decide +kernel) (by decide +kernel)⟩
theorem fpX0_112 : FPok RX0 112 3 4 .int := ⟨RX3, TX3, 12, tyX3, rfl, by decide, inG3, gw_of 212 (by decide +kernel) (by decide +kernel), tyX3_ok, nmX3, by decide +kernel, by decide +kernel⟩
theorem fkX0_119 : FOk RX0 119 3 8 := ⟨RX3, TX3, 12, rfl, by decide, inG3, gw_of 221 (by decide +kernel) (by decide +kernel)⟩
theorem fkX0_122 : FOk RX0 122 3 10 := ⟨RX3, TX3, 12, rfl, by decide, inG3, gw_of 225 (by decide +kernel) (by decide +kernel)⟩
theorem fkX0_125 : FOk RX0 125 3 9 := ⟨RX3, TX3, 12, rfl, by decide, inG3, gw_of 223 (by decide +kernel) (by decide +kernel)⟩
theorem fkX1_9 : FOk RX1 9 1 0 := ⟨RX1, TX1, 2, rfl, by decide, inG1, gw_of 304 (by decide +kernel) (by decide +kernel)⟩
theorem fkX1_15 : FOk RX1 15 1 1 := ⟨RX1, TX1, 2, rfl, by decide, inG1, gw_of 306 (by decide +kernel) (by decide +kernel)⟩
theorem fpX1_15 : FPok RX1 15 1 1 .boolean := ⟨RX1, TX1, 2, tyX1, rfl, by decide, inG1, gw_of 306 (by decide +kernel) (by decide +kernel), tyX1_ok, nmX1, by decide +kernel, by decide +kernel⟩
theorem fkX1_25 : FOk RX1 25 3 0 := ⟨RX3, TX3, 12, rfl, by decide, inG3, gw_of 200 (by decide +kernel) (by decide +kernel)⟩
theorem fpX1_25 : FPok RX1 25 3 0 .int := ⟨RX3, TX3, 12, tyX3, rfl, by decide, inG3, gw_of 200 (by decide +kernel) (by decide +kernel), tyX3_ok, nmX3, by decide +kernel, by decide +kernel⟩
theorem fkX1_38 : FOk RX1 38 3 1 := ⟨RX3, TX3, 12, rfl, by decide, inG3, gw_of 202 (by decide +kernel) (by decide +kernel)⟩
theorem fpX1_38 : FPok RX1 38 3 1 .int := ⟨RX3, TX3, 12, tyX3, rfl, by decide, inG3, gw_of 202 (by decide +kernel) (by decide +kernel), tyX3_ok, nmX3, by decide +kernel, by decide +kernel⟩
theorem fkX1_45 : FOk RX1 45 3 2 := ⟨RX3, TX3, 12, rfl, by decide, inG3, gw_of 205 (by decide +kernel) (by decide +kernel)⟩
theorem fpX1_45 : FPok RX1 45 3 2 .int := ⟨RX3, TX3, 12, tyX3, rfl, by decide, inG3, gw_of 205 (by decide +kernel) (by decide +kernel), tyX3_ok, nmX3, by decide +kernel, by decide +kernel⟩
theorem fkX1_48 : FOk RX1 48 3 3 := ⟨RX3, TX3, 12, rfl, by decide, inG3, gw_of 208 (by decide +kernel) (by decide +kernel)⟩
theorem fpX1_48 : FPok RX1 48 3 3 .int := ⟨RX3, TX3, 12, tyX3, rfl, by decide, inG3, gw_of 208 (by decide +kernel) (by decide +kernel), tyX3_ok, nmX3, by decide +kernel, by decide +kernel⟩
theorem fkX1_63 : FOk RX1 63 3 4 := ⟨RX3, TX3, 12, rfl, by decide, inG3, gw_of 211 (by decide +kernel) (by decide +kernel)⟩
theorem fpX1_63 : FPok RX1 63 3 4 .int := ⟨RX3, TX3, 12, tyX3, rfl, by decide, inG3, gw_of 211 (by decide +kernel) (by decide +kernel), tyX3_ok, nmX3, by decide +kernel, by decide +kernel⟩
theorem fkX1_66 : FOk RX1 66 3 8 := ⟨RX3, TX3, 12, rfl, by decide, inG3, gw_of 220 (by decide +kernel) (by decide +kernel)⟩
theorem fkX1_69 : FOk RX1 69 3 7 := ⟨RX3, TX3, 12, rfl, by decide, inG3, gw_of 218 (by decide +kernel) (by decide +kernel)⟩
theorem fkX1_72 : FOk RX1 72 3 5 := ⟨RX3, TX3, 12, rfl, by decide, inG3, gw_of 214 (by decide +kernel) (by decide +kernel)⟩
theorem fpX1_72 : FPok RX1 72 3 5 .int := ⟨RX3, TX3, 12, tyX3, rfl, by decide, inG3, gw_of 214 (by decide +kernel) (by decide +kernel), tyX3_ok, nmX3, by decide +kernel, by decide +kernel⟩
theorem fkX1_75 : FOk RX1 75 3 11 := ⟨RX3, TX3, 12, rfl, by decide, inG3, gw_of 227 (by decide +kernel) (by decide +kernel)⟩
theorem fkX1_78 : FOk RX1 78 3 6 := ⟨RX3, TX3, 12, rfl, by decide, inG3, gw_of 216 (by decide +kernel) (by decide +kernel)⟩
theorem fpX1_78 : FPok RX1 78 3 6 .int := ⟨RX3, TX3, 12, tyX3, rfl, by decide, inG3, gw_of 216 (by decide +kernel) (by decide +kernel), tyX3_ok, nmX3, by decide +kernel, by decide +kernel⟩
theorem fkX2_11 : FOk RX2 11 2 0 := ⟨RX2, TX2, 3, rfl, by decide, inG2, gw_of 181 (by decide +kernel) (by decide +kernel)⟩
theorem fkX2_17 : FOk RX2 17 2 1 := ⟨RX2, TX2, 3, rfl, by decide, inG2, gw_of 182 (by decide +kernel) (by decide +kernel)⟩
theorem fpX2_17 : FPok RX2 17 2 1 .int := ⟨RX2, TX2, 3, tyX2, rfl, by decide, inG2, gw_of 182 (by decide +kernel) (by decide +kernel), tyX2_ok, nmX2, by decide +kernel, by decide +kernel⟩
theorem fkX2_21 : FOk RX2 21 2 2 := ⟨RX2, TX2, 3, rfl, by decide, inG2, gw_of 183 (by decide +kernel) (by decide +kernel)⟩
theorem fpX2_21 : FPok RX2 21 2 2 .int := ⟨RX2, TX2, 3, tyX2, rfl, by decide, inG2, gw_of 183 (by decide +kernel) (by decide +kernel), tyX2_ok, nmX2, by decide +kernel, by decide +kernel⟩
theorem fkX3_9 : FOk RX3 9 3 0 := ⟨RX3, TX3, 12, rfl, by decide, inG3, gw_of 198 (by decide +kernel) (by decide +kernel)⟩
theorem fpX3_9 : FPok RX3 9 3 0 .int := ⟨RX3, TX3, 12, tyX3, rfl, by decide, inG3, gw_of 198 (by decide +kernel) (by decide +kernel), tyX3_ok, nmX3, by decide +kernel, by decide +kernel⟩
theorem fkX3_15 : FOk RX3 15 3 1 := ⟨RX3, TX3, 12, rfl, by decide, inG3, gw_of 201 (by decide +kernel) (by decide +kernel)⟩
theorem fpX3_15 : FPok RX3 15 3 1 .int := ⟨RX3, TX3, 12, tyX3, rfl, by decide, inG3, gw_of 201 (by decide +kernel) (by decide +kernel), tyX3_ok, nmX3, by decide +kernel, by decide +kernel⟩
theorem fkX3_18 : FOk RX3 18 3 2 := ⟨RX3, TX3, 12, rfl, by decide, inG3, gw_of 204 (by decide +kernel) (by decide +kernel)⟩
theorem fpX3_18 : FPok RX3 18 3 2 .int := ⟨RX3, TX3, 12, tyX3, rfl, by decide, inG3, gw_of 204 (by decide +kernel) (by decide +kernel), tyX3_ok, nmX3, by decide +kernel, by decide +kernel⟩
theorem fkX3_21 : FOk RX3 21 3 3 := ⟨RX3, TX3, 12, rfl, by decide, inG3, gw_of 207 (by decide +kernel) (by decide +kernel)⟩
theorem fpX3_21 : FPok RX3 21 3 3 .int := ⟨RX3, TX3, 12, tyX3, rfl, by decide, inG3, gw_of 207 (by decide +kernel) (by decide +kernel), tyX3_ok, nmX3, by decide +kernel, by decide +kernel⟩
theorem fkX3_24 : FOk RX3 24 3 4 := ⟨RX3, TX3, 12, rfl, by decide, inG3, gw_of 210 (by decide +kernel) (by decide +kernel)⟩
theorem fpX3_24 : FPok RX3 24 3 4 .int := ⟨RX3, TX3, 12, tyX3, rfl, by decide, inG3, gw_of 210 (by decide +kernel) (by decide +kernel), tyX3_ok, nmX3, by decide +kernel, by decide +kernel⟩
theorem fkX3_27 : FOk RX3 27 3 5 := ⟨RX3, TX3, 12, rfl, by decide, inG3, gw_of 213 (by decide +kernel) (by decide +kernel)⟩
theorem fpX3_27 : FPok RX3 27 3 5 .int := ⟨RX3, TX3, 12, tyX3, rfl, by decide, inG3, gw_of 213 (by decide +kernel) (by decide +kernel), tyX3_ok, nmX3, by decide +kernel, by decide +kernel⟩
theorem fkX3_30 : FOk RX3 30 3 6 := ⟨RX3, TX3, 12, rfl, by decide, inG3, gw_of 215 (by decide +kernel) (by decide +kernel)⟩
theorem fpX3_30 : FPok RX3 30 3 6 .int := ⟨RX3, TX3, 12, tyX3, rfl, by decide, inG3, gw_of 215 (by decide +kernel) (by decide +kernel), tyX3_ok, nmX3, by decide +kernel, by decide +kernel⟩
theorem fkX3_33 : FOk RX3 33 3 7 := ⟨RX3, TX3, 12, rfl, by decide, inG3, gw_of 217 (by decide +kernel) (by decide +kernel)⟩
theorem fkX3_37 : FOk RX3 37 3 8 := ⟨RX3, TX3, 12, rfl, by decide, inG3, gw_of 219 (by decide +kernel) (by decide +kernel)⟩
theorem fkX3_40 : FOk RX3 40 3 9 := ⟨RX3, TX3, 12, rfl, by decide, inG3, gw_of 222 (by decide +kernel) (by decide +kernel)⟩
theorem fkX3_43 : FOk RX3 43 3 10 := ⟨RX3, TX3, 12, rfl, by decide, inG3, gw_of 224 (by decide +kernel) (by decide +kernel)⟩
theorem fkX3_46 : FOk RX3 46 3 11 := ⟨RX3, TX3, 12, rfl, by decide, inG3, gw_of 226 (by decide +kernel) (by decide +kernel)⟩
theorem fkX3_49 : FOk RX3 49 4 0 := ⟨RX4, TX4, 12, rfl, by decide, inG4, gw_of 123 (by decide +kernel) (by decide +kernel)⟩
theorem fpX3_49 : FPok RX3 49 4 0 .int := ⟨RX4, TX4, 12, tyX4, rfl, by decide, inG4, gw_of 123 (by decide +kernel) (by decide +kernel), tyX4_ok, nmX4, by decide +kernel, by decide +kernel⟩
theorem fkX3_66 : FOk RX3 66 4 3 := ⟨RX4, TX4, 12, rfl, by decide, inG4, gw_of 131 (by decide +kernel) (by decide +kernel)⟩
theorem fkX3_82 : FOk RX3 82 4 4 := ⟨RX4, TX4, 12, rfl, by decide, inG4, gw_of 134 (by decide +kernel) (by decide +kernel)⟩
theorem fkX4_9 : FOk RX4 9 4 0 := ⟨RX4, TX4, 12, rfl, by decide, inG4, gw_of 122 (by decide +kernel) (by decide +kernel)⟩
theorem fpX4_9 : FPok RX4 9 4 0 .int := ⟨RX4, TX4, 12, tyX4, rfl, by decide, inG4, gw_of 122 (by decide +kernel) (by decide +kernel), tyX4_ok, nmX4, by decide +kernel, by decide +kernel⟩
theorem fkX4_15 : FOk RX4 15 4 1 := ⟨RX4, TX4, 12, rfl, by decide, inG4, gw_of 126 (by decide +kernel) (by decide +kernel)⟩
theorem fkX4_19 : FOk RX4 19 4 2 := ⟨RX4, TX4, 12, rfl, by decide, inG4, gw_of 128 (by decide +kernel) (by decide +kernel)⟩
theorem fkX4_22 : FOk RX4 22 4 3 := ⟨RX4, TX4, 12, rfl, by decide, inG4, gw_of 130 (by decide +kernel) (by decide +kernel)⟩
theorem fkX4_25 : FOk RX4 25 4 4 := ⟨RX4, TX4, 12, rfl, by decide, inG4, gw_of 133 (by decide +kernel) (by decide +kernel)⟩
theorem fkX4_28 : FOk RX4 28 4 5 := ⟨RX4, TX4, 12, rfl, by decide, inG4, gw_of 136 (by decide +kernel) (by decide +kernel)⟩
theorem fpX4_28 : FPok RX4 28 4 5 .int := ⟨RX4, TX4, 12, tyX4, rfl, by decide, inG4, gw_of 136 (by decide +kernel) (by decide +kernel), tyX4_ok, nmX4, by decide +kernel, by decide +kernel⟩
theorem fkX4_31 : FOk RX4 31 4 6 := ⟨RX4, TX4, 12, rfl, by decide, inG4, gw_of 139 (by decide +kernel) (by decide +kernel)⟩
theorem fkX4_34 : FOk RX4 34 4 7 := ⟨RX4, TX4, 12, rfl, by decide, inG4, gw_of 140 (by decide +kernel) (by decide +kernel)⟩
theorem fkX4_37 : FOk RX4 37 4 8 := ⟨RX4, TX4, 12, rfl, by decide, inG4, gw_of 141 (by decide +kernel) (by decide +kernel)⟩
theorem fpX4_37 : FPok RX4 37 4 8 .int := ⟨RX4, TX4, 12, tyX4, rfl, by decide, inG4, gw_of 141 (by decide +kernel) (by decide +kernel), tyX4_ok, nmX4, by decide +kernel, by decide +kernel⟩
theorem fkX4_40 : FOk RX4 40 4 9 := ⟨RX4, TX4, 12, rfl, by decide, inG4, gw_of 143 (by decide +kernel) (by decide +kernel)⟩
theorem fkX4_43 : FOk RX4 43 4 10 := ⟨RX4, TX4, 12, rfl, by decide, inG4, gw_of 144 (by decide +kernel) (by decide +kernel)⟩
theorem fkX4_46 : FOk RX4 46 4 11 := ⟨RX4, TX4, 12, rfl, by decide, inG4, gw_of 145 (by decide +kernel) (by decide +kernel)⟩
theorem fkX5_9 : FOk RX5 9 5 0 := ⟨RX5, TX5, 6, rfl, by decide, inG5, gw_of 94 (by decide +kernel) (by decide +kernel)⟩
theorem fkX5_15 : FOk RX5 15 5 1 := ⟨RX5, TX5, 6, rfl, by decide, inG5, gw_of 96 (by decide +kernel) (by decide +kernel)⟩
theorem fpX5_15 : FPok RX5 15 5 1 .int := ⟨RX5, TX5, 6, tyX5, rfl, by decide, inG5, gw_of 96 (by decide +kernel) (by decide +kernel), tyX5_ok, nmX5, by decide +kernel, by decide +kernel⟩
theorem fkX5_19 : FOk RX5 19 5 2 := ⟨RX5, TX5, 6, rfl, by decide, inG5, gw_of 98 (by decide +kernel) (by decide +kernel)⟩
theorem fpX5_19 : FPok RX5 19 5 2 .int := ⟨RX5, TX5, 6, tyX5, rfl, by decide, inG5, gw_of 98 (by decide +kernel) (by decide +kernel), tyX5_ok, nmX5, by decide +kernel, by decide +kernel⟩
theorem fkX5_22 : FOk RX5 22 5 3 := ⟨RX5, TX5, 6, rfl, by decide, inG5, gw_of 99 (by decide +kernel) (by decide +kernel)⟩
theorem fpX5_22 : FPok RX5 22 5 3 .int := ⟨RX5, TX5, 6, tyX5, rfl, by decide, inG5, gw_of 99 (by decide +kernel) (by decide +kernel), tyX5_ok, nmX5, by decide +kernel, by decide +kernel⟩
theorem fkX5_25 : FOk RX5 25 5 4 := ⟨RX5, TX5, 6, rfl, by decide, inG5, gw_of 100 (by decide +kernel) (by decide +kernel)⟩
theorem fpX5_25 : FPok RX5 25 5 4 .int := ⟨RX5, TX5, 6, tyX5, rfl, by decide, inG5, gw_of 100 (by decide +kernel) (by decide +kernel), tyX5_ok, nmX5, by decide +kernel, by decide +kernel⟩
theorem fkX5_28 : FOk RX5 28 5 5 := ⟨RX5, TX5, 6, rfl, by decide, inG5, gw_of 101 (by decide +kernel) (by decide +kernel)⟩
theorem fkX5_62 : FOk RX5 62 4 5 := ⟨RX4, TX4, 12, rfl, by decide, inG4, gw_of 137 (by decide +kernel) (by decide +kernel)⟩
theorem fpX5_62 : FPok RX5 62 4 5 .int := ⟨RX4, TX4, 12, tyX4, rfl, by decide, inG4, gw_of 137 (by decide +kernel) (by decide +kernel), tyX4_ok, nmX4, by decide +kernel, by decide +kernel⟩
theorem fkX5_65 : FOk RX5 65 4 0 := ⟨RX4, TX4, 12, rfl, by decide, inG4, gw_of 124 (by decide +kernel) (by decide +kernel)⟩
theorem fpX5_65 : FPok RX5 65 4 0 .int := ⟨RX4, TX4, 12, tyX4, rfl, by decide, inG4, gw_of 124 (by decide +kernel) (by decide +kernel), tyX4_ok, nmX4, by decide +kernel, by decide +kernel⟩
theorem fkX7_7 : FOk RX7 7 7 1 := ⟨RX7, TX7, 17, rfl, by decide, inG7, gw_of 804 (by decide +kernel) (by decide +kernel)⟩
theorem fkX7_13 : FOk RX7 13 7 2 := ⟨RX7, TX7, 17, rfl, by decide, inG7, gw_of 805 (by decide +kernel) (by decide +kernel)⟩
theorem fkX7_16 : FOk RX7 16 7 3 := ⟨RX7, TX7, 17, rfl, by decide, inG7, gw_of 806 (by decide +kernel) (by decide +kernel)⟩
theorem fkX7_19 : FOk RX7 19 7 5 := ⟨RX7, TX7, 17, rfl, by decide, inG7, gw_of 808 (by decide +kernel) (by decide +kernel)⟩
theorem fkX7_22 : FOk RX7 22 7 12 := ⟨RX7, TX7, 17, rfl, by decide, inG7, gw_of 815 (by decide +kernel) (by decide +kernel)⟩
theorem fkX7_25 : FOk RX7 25 7 14 := ⟨RX7, TX7, 17, rfl, by decide, inG7, gw_of 817 (by decide +kernel) (by decide +kernel)⟩
theorem fkX7_29 : FOk RX7 29 7 15 := ⟨RX7, TX7, 17, rfl, by decide, inG7, gw_of 818 (by decide +kernel) (by decide +kernel)⟩
theorem fkX7_32 : FOk RX7 32 7 0 := ⟨RX7, TX7, 17, rfl, by decide, inG7, gw_of 803 (by decide +kernel) (by decide +kernel)⟩
theorem fpX7_32 : FPok RX7 32 7 0 .int := ⟨RX7, TX7, 17, tyX7, rfl, by decide, inG7, gw_of 803 (by decide +kernel) (by decide +kernel), tyX7_ok, nmX7, by decide +kernel, by decide +kernel⟩
theorem fkX7_36 : FOk RX7 36 7 6 := ⟨RX7, TX7, 17, rfl, by decide, inG7, gw_of 809 (by decide +kernel) (by decide +kernel)⟩
theorem fpX7_36 : FPok RX7 36 7 6 .int := ⟨RX7, TX7, 17, tyX7, rfl, by decide, inG7, gw_of 809 (by decide +kernel) (by decide +kernel), tyX7_ok, nmX7, by decide +kernel, by decide +kernel⟩
theorem fkX7_39 : FOk RX7 39 7 8 := ⟨RX7, TX7, 17, rfl, by decide, inG7, gw_of 811 (by decide +kernel) (by decide +kernel)⟩
theorem fpX7_39 : FPok RX7 39 7 8 .int := ⟨RX7, TX7, 17, tyX7, rfl, by decide, inG7, gw_of 811 (by decide +kernel) (by decide +kernel), tyX7_ok, nmX7, by decide +kernel, by decide +kernel⟩
theorem fkX7_42 : FOk RX7 42 7 7 := ⟨RX7, TX7, 17, rfl, by decide, inG7, gw_of 810 (by decide +kernel) (by decide +kernel)⟩
theorem fpX7_42 : FPok RX7 42 7 7 .int := ⟨RX7, TX7, 17, tyX7, rfl, by decide, inG7, gw_of 810 (by decide +kernel) (by decide +kernel), tyX7_ok, nmX7, by decide +kernel, by decide +kernel⟩
theorem fkX7_53 : FOk RX7 53 7 9 := ⟨RX7, TX7, 17, rfl, by decide, inG7, gw_of 812 (by decide +kernel) (by decide +kernel)⟩
theorem fpX7_53 : FPok RX7 53 7 9 .int := ⟨RX7, TX7, 17, tyX7, rfl, by decide, inG7, gw_of 812 (by decide +kernel) (by decide +kernel), tyX7_ok, nmX7, by decide +kernel, by decide +kernel⟩
theorem fkX7_64 : FOk RX7 64 7 10 := ⟨RX7, TX7, 17, rfl, by decide, inG7, gw_of 813 (by decide +kernel) (by decide +kernel)⟩
theorem fpX7_64 : FPok RX7 64 7 10 .int := ⟨RX7, TX7, 17, tyX7, rfl, by decide, inG7, gw_of 813 (by decide +kernel) (by decide +kernel), tyX7_ok, nmX7, by decide +kernel, by decide +kernel⟩
theorem fkX7_67 : FOk RX7 67 7 11 := ⟨RX7, TX7, 17, rfl, by decide, inG7, gw_of 814 (by decide +kernel) (by decide +kernel)⟩
theorem fpX7_67 : FPok RX7 67 7 11 .int := ⟨RX7, TX7, 17, tyX7, rfl, by decide, inG7, gw_of 814 (by decide +kernel) (by decide +kernel), tyX7_ok, nmX7, by decide +kernel, by decide +kernel⟩
theorem fkX7_105 : FOk RX7 105 7 4 := ⟨RX7, TX7, 17, rfl, by decide, inG7, gw_of 807 (by decide +kernel) (by decide +kernel)⟩
theorem fpX7_105 : FPok RX7 105 7 4 .int := ⟨RX7, TX7, 17, tyX7, rfl, by decide, inG7, gw_of 807 (by decide +kernel) (by decide +kernel), tyX7_ok, nmX7, by decide +kernel, by decide +kernel⟩
theorem fkX7_154 : FOk RX7 154 7 13 := ⟨RX7, TX7, 17, rfl, by decide, inG7, gw_of 816 (by decide +kernel) (by decide +kernel)⟩
theorem fpX7_154 : FPok RX7 154 7 13 .int := ⟨RX7, TX7, 17, tyX7, rfl, by decide, inG7, gw_of 816 (by decide +kernel) (by decide +kernel), tyX7_ok, nmX7, by decide +kernel, by decide +kernel⟩
theorem fkX7_172 : FOk RX7 172 7 16 := ⟨RX7, TX7, 17, rfl, by decide, inG7, gw_of 819 (by decide +kernel) (by decide +kernel)⟩
theorem fpX7_172 : FPok RX7 172 7 16 .int := ⟨RX7, TX7, 17, tyX7, rfl, by decide, inG7, gw_of 819 (by decide +kernel) (by decide +kernel), tyX7_ok, nmX7, by decide +kernel, by decide +kernel⟩
theorem kcJ6_265 : Cond.constant RJ6 265 1431655765 ∈ GW := gw_of 742 (by decide +kernel) (by decide +kernel)
theorem kcJ6_266 : Cond.constant RJ6 266 858993459 ∈ GW := gw_of 743 (by decide +kernel) (by decide +kernel)
theorem kcJ6_267 : Cond.constant RJ6 267 252645135 ∈ GW := gw_of 744 (by decide +kernel) (by decide +kernel)
theorem wcpX4_55 : ∀ w ∈ ([.methodLink RX4 55 arraycopyName, .native arraycopyName, .static arraycopyName, .initialized "java/lang/System"] : List Cond), w ∈ GW := gw_all _ [488, 490, 489, 77] (by decide +kernel) (by decide +kernel)
theorem wmnX2_29 : ∀ w ∈ ([.methodLink RX2 29 Lib.Math.min.name, .static Lib.Math.min.name, .initialized "java/lang/Math", .code Lib.Math.min.name Lib.Math.min.code 2 (some .int)] : List Cond), w ∈ GW := gw_all _ [491, 492, 78, 493] (by decide +kernel) (by decide +kernel)
/-! What the cells are. -/
theorem ca_0 : cAt 0 = some 6 := by decide +kernel
theorem fa_0_0 : fAt 0 0 = some (6, some 1) := by decide +kernel
theorem fa_0_1 : fAt 0 1 = some (6, some 34) := by decide +kernel
theorem fa_0_2 : fAt 0 2 = some (6, some 44) := by decide +kernel
theorem fa_0_3 : fAt 0 3 = some (6, some 4) := by decide +kernel
theorem fa_0_4 : fAt 0 4 = some (6, some 6) := by decide +kernel
theorem fa_0_5 : fAt 0 5 = some (6, some 12) := by decide +kernel
theorem fa_0_6 : fAt 0 6 = some (6, some 22) := by decide +kernel
theorem fa_0_7 : fAt 0 7 = some (6, some 24) := by decide +kernel
theorem fa_0_8 : fAt 0 8 = some (6, none) := by decide +kernel
theorem ca_1 : cAt 1 = some 5 := by decide +kernel
theorem fa_1_0 : fAt 1 0 = some (5, some 2) := by decide +kernel
theorem fa_1_1 : fAt 1 1 = some (5, none) := by decide +kernel
theorem fa_1_2 : fAt 1 2 = some (5, none) := by decide +kernel
theorem fa_1_3 : fAt 1 3 = some (5, none) := by decide +kernel
theorem fa_1_4 : fAt 1 4 = some (5, none) := by decide +kernel
theorem fa_1_5 : fAt 1 5 = some (5, some 3) := by decide +kernel
theorem aa_2 : aAt 2 = some (0, 160) := by decide +kernel
theorem aa_3 : aAt 3 = some (0, 3) := by decide +kernel
theorem ca_4 : cAt 4 = some 2 := by decide +kernel
theorem fa_4_0 : fAt 4 0 = some (2, some 5) := by decide +kernel
theorem fa_4_1 : fAt 4 1 = some (2, none) := by decide +kernel
theorem fa_4_2 : fAt 4 2 = some (2, none) := by decide +kernel
theorem ra_5 : rAt 5 = some [54, 64, 74, 84, 94] := by decide +kernel
theorem ca_6 : cAt 6 = some 3 := by decide +kernel
theorem fa_6_0 : fAt 6 0 = some (3, none) := by decide +kernel
theorem fa_6_1 : fAt 6 1 = some (3, none) := by decide +kernel
theorem fa_6_2 : fAt 6 2 = some (3, none) := by decide +kernel
theorem fa_6_3 : fAt 6 3 = some (3, none) := by decide +kernel
theorem fa_6_4 : fAt 6 4 = some (3, none) := by decide +kernel
theorem fa_6_5 : fAt 6 5 = some (3, none) := by decide +kernel
theorem fa_6_6 : fAt 6 6 = some (3, none) := by decide +kernel
theorem fa_6_7 : fAt 6 7 = some (3, some 7) := by decide +kernel
theorem fa_6_8 : fAt 6 8 = some (3, some 8) := by decide +kernel
theorem fa_6_9 : fAt 6 9 = some (3, some 9) := by decide +kernel
theorem fa_6_10 : fAt 6 10 = some (3, some 10) := by decide +kernel
theorem fa_6_11 : fAt 6 11 = some (3, some 11) := by decide +kernel
theorem aa_7 : aAt 7 = some (0, 10) := by decide +kernel
theorem aa_8 : aAt 8 = some (0, 10) := by decide +kernel
theorem aa_9 : aAt 9 = some (0, 10) := by decide +kernel
theorem aa_10 : aAt 10 = some (0, 10) := by decide +kernel
theorem aa_11 : aAt 11 = some (0, 10) := by decide +kernel
theorem ca_12 : cAt 12 = some 0 := by decide +kernel
theorem fa_12_0 : fAt 12 0 = some (0, some 13) := by decide +kernel
theorem fa_12_1 : fAt 12 1 = some (0, some 14) := by decide +kernel
theorem fa_12_2 : fAt 12 2 = some (0, some 15) := by decide +kernel
theorem fa_12_3 : fAt 12 3 = some (0, some 16) := by decide +kernel
theorem fa_12_4 : fAt 12 4 = some (0, some 17) := by decide +kernel
theorem fa_12_5 : fAt 12 5 = some (0, some 18) := by decide +kernel
theorem fa_12_6 : fAt 12 6 = some (0, some 19) := by decide +kernel
theorem fa_12_7 : fAt 12 7 = some (0, none) := by decide +kernel
theorem fa_12_8 : fAt 12 8 = some (0, some 20) := by decide +kernel
theorem fa_12_9 : fAt 12 9 = some (0, some 21) := by decide +kernel
theorem fa_12_10 : fAt 12 10 = some (0, none) := by decide +kernel
theorem aa_13 : aAt 13 = some (0, 10) := by decide +kernel
theorem aa_14 : aAt 14 = some (0, 10) := by decide +kernel
theorem aa_15 : aAt 15 = some (0, 100) := by decide +kernel
theorem aa_16 : aAt 16 = some (0, 100) := by decide +kernel
theorem aa_17 : aAt 17 = some (0, 100) := by decide +kernel
theorem aa_18 : aAt 18 = some (0, 100) := by decide +kernel
theorem aa_19 : aAt 19 = some (0, 100) := by decide +kernel
theorem aa_20 : aAt 20 = some (0, 100) := by decide +kernel
theorem aa_21 : aAt 21 = some (0, 100) := by decide +kernel
theorem ca_22 : cAt 22 = some 1 := by decide +kernel
theorem fa_22_0 : fAt 22 0 = some (1, some 23) := by decide +kernel
theorem fa_22_1 : fAt 22 1 = some (1, none) := by decide +kernel
theorem aa_23 : aAt 23 = some (0, 10) := by decide +kernel
theorem ca_24 : cAt 24 = some 1 := by decide +kernel
theorem fa_24_0 : fAt 24 0 = some (1, some 25) := by decide +kernel
theorem fa_24_1 : fAt 24 1 = some (1, none) := by decide +kernel
theorem aa_25 : aAt 25 = some (0, 10) := by decide +kernel
theorem ca_26 : cAt 26 = some 7 := by decide +kernel
theorem fa_26_0 : fAt 26 0 = some (7, none) := by decide +kernel
theorem fa_26_1 : fAt 26 1 = some (7, some 27) := by decide +kernel
theorem fa_26_2 : fAt 26 2 = some (7, some 28) := by decide +kernel
theorem fa_26_3 : fAt 26 3 = some (7, some 29) := by decide +kernel
theorem fa_26_4 : fAt 26 4 = some (7, none) := by decide +kernel
theorem fa_26_5 : fAt 26 5 = some (7, some 30) := by decide +kernel
theorem fa_26_6 : fAt 26 6 = some (7, none) := by decide +kernel
theorem fa_26_7 : fAt 26 7 = some (7, none) := by decide +kernel
theorem fa_26_8 : fAt 26 8 = some (7, none) := by decide +kernel
theorem fa_26_9 : fAt 26 9 = some (7, none) := by decide +kernel
theorem fa_26_10 : fAt 26 10 = some (7, none) := by decide +kernel
theorem fa_26_11 : fAt 26 11 = some (7, none) := by decide +kernel
theorem fa_26_12 : fAt 26 12 = some (7, some 31) := by decide +kernel
theorem fa_26_13 : fAt 26 13 = some (7, none) := by decide +kernel
theorem fa_26_14 : fAt 26 14 = some (7, some 32) := by decide +kernel
theorem fa_26_15 : fAt 26 15 = some (7, some 33) := by decide +kernel
theorem fa_26_16 : fAt 26 16 = some (7, none) := by decide +kernel
theorem aa_27 : aAt 27 = some (0, 81) := by decide +kernel
theorem aa_28 : aAt 28 = some (0, 81) := by decide +kernel
theorem aa_29 : aAt 29 = some (0, 405) := by decide +kernel
theorem aa_30 : aAt 30 = some (0, 160) := by decide +kernel
theorem aa_31 : aAt 31 = some (0, 100) := by decide +kernel
theorem aa_32 : aAt 32 = some (1, 100) := by decide +kernel
theorem aa_33 : aAt 33 = some (0, 100) := by decide +kernel
def isSt (b : Nat) : Prop := b = 34 ∨ b = 44 ∨ b = 54 ∨ b = 64 ∨ b = 74 ∨ b = 84 ∨ b = 94
theorem isSt_34 : isSt 34 := Or.inl rfl
theorem isSt_44 : isSt 44 := Or.inr (Or.inl rfl)
theorem cs_ {b : Nat} (h : isSt b) : cAt b = some 4 := by rcases h with rfl | rfl | rfl | rfl | rfl | rfl | rfl <;> decide +kernel
theorem fs_0 {b : Nat} (h : isSt b) : fAt b 0 = some (4, none) := by rcases h with rfl | rfl | rfl | rfl | rfl | rfl | rfl <;> decide +kernel
theorem fs_1 {b : Nat} (h : isSt b) : fAt b 1 = some (4, some (b + 1)) := by rcases h with rfl | rfl | rfl | rfl | rfl | rfl | rfl <;> decide +kernel
theorem fs_2 {b : Nat} (h : isSt b) : fAt b 2 = some (4, some (b + 2)) := by rcases h with rfl | rfl | rfl | rfl | rfl | rfl | rfl <;> decide +kernel
theorem fs_3 {b : Nat} (h : isSt b) : fAt b 3 = some (4, some (b + 3)) := by rcases h with rfl | rfl | rfl | rfl | rfl | rfl | rfl <;> decide +kernel
theorem fs_4 {b : Nat} (h : isSt b) : fAt b 4 = some (4, some (b + 4)) := by rcases h with rfl | rfl | rfl | rfl | rfl | rfl | rfl <;> decide +kernel
theorem fs_5 {b : Nat} (h : isSt b) : fAt b 5 = some (4, none) := by rcases h with rfl | rfl | rfl | rfl | rfl | rfl | rfl <;> decide +kernel
theorem fs_6 {b : Nat} (h : isSt b) : fAt b 6 = some (4, some (b + 5)) := by rcases h with rfl | rfl | rfl | rfl | rfl | rfl | rfl <;> decide +kernel
theorem fs_7 {b : Nat} (h : isSt b) : fAt b 7 = some (4, some (b + 6)) := by rcases h with rfl | rfl | rfl | rfl | rfl | rfl | rfl <;> decide +kernel
theorem fs_8 {b : Nat} (h : isSt b) : fAt b 8 = some (4, none) := by rcases h with rfl | rfl | rfl | rfl | rfl | rfl | rfl <;> decide +kernel
theorem fs_9 {b : Nat} (h : isSt b) : fAt b 9 = some (4, some (b + 7)) := by rcases h with rfl | rfl | rfl | rfl | rfl | rfl | rfl <;> decide +kernel
theorem fs_10 {b : Nat} (h : isSt b) : fAt b 10 = some (4, some (b + 8)) := by rcases h with rfl | rfl | rfl | rfl | rfl | rfl | rfl <;> decide +kernel
theorem fs_11 {b : Nat} (h : isSt b) : fAt b 11 = some (4, some (b + 9)) := by rcases h with rfl | rfl | rfl | rfl | rfl | rfl | rfl <;> decide +kernel
theorem as_1 {b : Nat} (h : isSt b) : aAt (b + 1) = some (0, 10) := by rcases h with rfl | rfl | rfl | rfl | rfl | rfl | rfl <;> decide +kernel
theorem as_2 {b : Nat} (h : isSt b) : aAt (b + 2) = some (0, 10) := by rcases h with rfl | rfl | rfl | rfl | rfl | rfl | rfl <;> decide +kernel
theorem as_3 {b : Nat} (h : isSt b) : aAt (b + 3) = some (0, 10) := by rcases h with rfl | rfl | rfl | rfl | rfl | rfl | rfl <;> decide +kernel
theorem as_4 {b : Nat} (h : isSt b) : aAt (b + 4) = some (0, 10) := by rcases h with rfl | rfl | rfl | rfl | rfl | rfl | rfl <;> decide +kernel
theorem as_5 {b : Nat} (h : isSt b) : aAt (b + 5) = some (0, 10) := by rcases h with rfl | rfl | rfl | rfl | rfl | rfl | rfl <;> decide +kernel
theorem as_6 {b : Nat} (h : isSt b) : aAt (b + 6) = some (0, 10) := by rcases h with rfl | rfl | rfl | rfl | rfl | rfl | rfl <;> decide +kernel
theorem as_7 {b : Nat} (h : isSt b) : aAt (b + 7) = some (0, 4) := by rcases h with rfl | rfl | rfl | rfl | rfl | rfl | rfl <;> decide +kernel
theorem as_8 {b : Nat} (h : isSt b) : aAt (b + 8) = some (0, 4) := by rcases h with rfl | rfl | rfl | rfl | rfl | rfl | rfl <;> decide +kernel
theorem as_9 {b : Nat} (h : isSt b) : aAt (b + 9) = some (0, 10) := by rcases h with rfl | rfl | rfl | rfl | rfl | rfl | rfl <;> decide +kernel
def isCl (b : Nat) : Prop := b = 22 ∨ b = 24
theorem cc_ {b : Nat} (h : isCl b) : cAt b = some 1 := by rcases h with rfl | rfl <;> decide +kernel
theorem fc_0 {b : Nat} (h : isCl b) : fAt b 0 = some (1, some (b + 1)) := by rcases h with rfl | rfl <;> decide +kernel
theorem fc_1 {b : Nat} (h : isCl b) : fAt b 1 = some (1, none) := by rcases h with rfl | rfl <;> decide +kernel
theorem ac_1 {b : Nat} (h : isCl b) : aAt (b + 1) = some (0, 10) := by rcases h with rfl | rfl <;> decide +kernel
def bz (v : Int32) : Prop := narrow .boolean (.int v) = .int v
