/-! THE CLAIM OUT OF ONE WALK OF THE LAW'S BODY. Your part is whole_start (and what it stands on); all else here is the same for every law, but numbers. -/
def R_law : String := "ConfinementAnalyzerLaw"
def lw_P (b : Addr) (xs : List Int32) (args : Array Value) (s : State) : Prop := args = #[.ref b] ∧ s.IntsAt b xs ∧ xs.length ≤ 2048 ∧ (Jvm.Cond.and given_1 narrow_1).before args s = true
def lw_Q (_ : Array Value) (s : State) (o : Outcome) (t : State) : Prop := o = .returned (some (.int 1)) ∧ Framed s o t [] 600000 7302250
def lw_Z (below : List Frame) (a : Array Value) (s : State) : State → Prop := fun t => ∃ o, t.status = .running ∧ Ended t below o ∧ lw_Q a s o t
/-- the law's own end, with 1 on the stack, nothing written that was there before, its room as the claim has it -/
theorem lw_ret {p : Program} {l : Launch} {e : Env} {s : State} {m : MethodId} {below : List Frame} {meth : Method} {c : Code} {b : Nat} (hx : p.tables.exec = Jvm.exec) (hb : c.code = code) (hr : meth.sig.returnType = ret) (hlocks : meth.locks = false) {pc : Nat} {H : Heap} {ls : Array Slot} (hdg : decode code pc = .ok (.ireturn, 1)) : W p l e room_1 s m #[Value.ref b] below meth c H [] 600000 7302250 (lw_Z below #[Value.ref b] s) (F0 m pc ls [.int 1]) := by
  intro T hT X
  obtain ⟨fs, hret, hrun, hended, hW, hframe⟩ := X.leave (v := some (.int 1)) (hlocks := hlocks) (fun h => by rw [hr] at h; cases h)
  have hmeth' : T.vm.method? m = some meth := X.method'
  refine ⟨T.setFrames fs, ?_, .returned (some (.int 1)), hrun, hended, rfl, ⟨_, rfl⟩, hW, hframe⟩
  jvm_step X.here [X.here.top, hx, hb, hdg, hmeth', hr, ret, narrow_b1]
  (try refine ⟨rfl, ?_⟩); (try refine ⟨rfl, ?_⟩)
  first | (intro acts; rw [hret _ acts rfl rfl rfl]) | rw [hret _ _ rfl rfl rfl]
  exact Steps.refl _
/-- what holds at the law's entry: the machine, the code, the tables' words (any of lw_tbl by 'hts w (by decide +kernel)'), the script of L ints xs at the cell b, what the Statement gives of the start (any of its parts by flat_of_before) -/
def lw_At (p : Program) (s : State) (m : MethodId) (meth : Method) (c : Code) (b L : Nat) (xs : Nat → Int32) : Prop :=
  p.tables.exec = Jvm.exec ∧ c.code = code ∧ meth.sig.returnType = ret ∧ c.maxLocals = 4 ∧ s.vm.findClass R_law = some m.cls ∧ (∀ w ∈ lw_tbl, w.before #[Value.ref b] s = true) ∧ va_X b L xs s s.heap ∧ b < s.heap.size ∧ meth.locks = false ∧ (Jvm.Cond.and given_1 narrow_1).before #[Value.ref b] s = true
/-! The law: its calls. -/
def LwX (Γ : Gam) (p : Program) (s : State) (m : MethodId) (meth : Method) (c : Code) (b L : Nat) (xs : Nat → Int32) : Prop := lw_At p s m meth c b L xs ∧ Tb Γ s s.heap ∧ ∀ k, k < 104 → s.heap.size ≤ Γ.2.2.2.1 k
def LwI (Γ : Gam) (s : State) (a : Ab) (g : Mem) (H : Heap) (locs : List Loc) : Prop := CI a g ∧ MI a g ∧ WA a ∧ va_P (dd Γ) vwCl (wd Γ g) H ∧ va_S (fun q : Nat => s.heap.size ≤ q) s.heap H locs
theorem rm_law {d : Nat} {J : Mi} (hd : d ≤ 12) (hn : J.2.2.1 ≤ 20) : (rmD d).frames + 1 ≤ room_1.frames ∧ 8 + (J.2.2.1 + 11) + (rmD d).locals ≤ room_1.locals := by
  refine ⟨?_, ?_⟩
  · show d + 1 ≤ 14
    omega
  · show 8 + (J.2.2.1 + 11) + 39 * d ≤ 548
    omega
section LWC
variable {Γ : Gam} {p : Program} {e : Env} {s : State} {m : MethodId} {below : List Frame} {meth : Method} {c : Code} {b L : Nat} {xs : Nat → Int32} {H : Heap} {locs : List Loc} {g : Mem} {ls : Array Slot} {pc : Nat} {Q : State → Prop}
theorem lw_call (C : LwX Γ p s m meth c b L xs) {idx n d ci k N' : Nat} {y : MethodName} {J : Mi} {C' : String} {T : u_T} {ty : FieldType} {rest : List Value} {P : Int32 → Mem → Prop} (as : List AV) (hl : Cond.methodLink RL idx y ∈ GW) (hM : CkM C' y J n) (hk : cAt k = some ci) (hq : vwCl[ci]? = some (C', T, N')) (hd12 : d ≤ 12) (hn : as.length = n) (h8 : (rest.map fun v => v.category).sum ≤ 8) (hsz : ls.size = 4) (hP : va_P (dd Γ) vwCl (wd Γ g) H) (hS : va_S (fun q : Nat => s.heap.size ≤ q) s.heap H locs) {stk : List Value} (hst : stk = (as.map (avV Γ.2.2.2.1)).reverse ++ .ref (Γ.2.2.2.1 k) :: rest) (hdg : decode code pc = .ok (.invokevirtual idx, 3)) (hr : J.2.2.2 = some ty) (R : Runs Γ d y J (.inr k :: as) g P)
    (kk : ∀ (r : Int32) (g1 : Mem) (H1 : Heap) (locs1 : List Loc), P r g1 → va_P (dd Γ) vwCl (wd Γ g1) H1 → va_S (fun q : Nat => s.heap.size ≤ q) s.heap H1 locs1 → W p Γ.1 e room_1 s m #[Value.ref b] below meth c H1 locs1 104 2677 Q (F0 m (pc + 3) ls (.int r :: rest))) : W p Γ.1 e room_1 s m #[Value.ref b] below meth c H locs 104 2677 Q (F0 m pc ls stk) := by
  subst hst
  obtain ⟨⟨hx, hb, hrt, hml, hown, hts, hX, hbl, hlocks, hgv⟩, hT, hnew⟩ := C
  have ht : ∀ w ∈ GW, w.before #[Value.ref b] s = true := fun w h => hts w (List.mem_filter.mp h).1
  have hown' : s.vm.findClass RL = some m.cls := hown
  have hw := hM.1
  have hcode : Cond.code y J.1 J.2.2.1 J.2.2.2 ∈ GW := hw _ (by simp)
  have hcw := cwV (R := room_1) (s := s) (args := #[Value.ref b]) (own := RL) (index := idx) (C := C') (y := y) (rm := rmD d) (mc := 0) (ms := 0) n ht (gApp (fun w h => by
      simp only [List.mem_cons, List.not_mem_nil, or_false] at h
      rcases h with rfl | rfl | rfl | rfl
      · exact hl
      · exact hw _ (by simp)
      · exact hw _ (by simp)
      · exact hw _ (by simp)) (gIn hcode)) rfl rfl rfl hM.2.1 (rm_law hd12 hM.2.2)
  unfold Runs QcG at R
  rw [hr] at R
  obtain ⟨fs, hf⟩ := cAt_cell (Γ := Γ) (g := g) hk
  have hrv : ∃ cell : Cell, H[Γ.2.2.2.1 k]? = some cell ∧ cell.vm.isStatics = false ∧ s.vm.findClass C' = some cell.cls := va_recv hT.1 hP hq (q0 := k) (by rw [wd_at (cAt_lt hk), hf])
  have hA : ∀ q, fr Γ q → (fun q : Nat => s.heap.size ≤ q) q := fun q ⟨k, k1, k2⟩ => by rw [k2]; exact hnew k k1
  have hrun := va_runV (e := e) (below := below) (meth := meth) (H := H) (locs := locs) (cells := 104) (slots := 2677) (g := F0 m pc ls ((as.map (avV Γ.2.2.2.1)).reverse ++ .ref (Γ.2.2.2.1 k) :: rest)) (As := as.map (avV Γ.2.2.2.1)) (rest := rest) ⟨hx, hb, hml, hown', ht⟩ R hcw ⟨PcG.blind, hrv, fun U hU hW => ⟨rfl, by rw [hU]; exact hP, by rw [hU]; exact hT.warm hW (fun a h1 h2 => hS.2.1 a h1 (Nat.not_le.mpr h1))⟩⟩ rfl (by rw [List.length_map]; exact hn) hsz rfl (lv_room h8) hdg ⟨(Nat.le_of_ble_eq_true rfl), (Nat.le_of_ble_eq_true rfl)⟩
  refine va_calli hrun hS (fun q _ h => hA q h) hA (fun r u t H1 locs1 ht1 hvm hw1 hB hz hk1 hS1 => ?_)
  have hB2 : va_P (dd Γ) vwCl (wd Γ u) t.heap := hB
  rw [ht1] at hB2
  exact kk r u H1 locs1 hw1 hB2 hS1
theorem lw_arg (C : LwX Γ p s m meth c b L xs) (hL : L ≤ 2048) {i k : Nat} {z : Int} {v1 v2 : Value} {rest : List Value} {K N : Nat} {R : Room} {l : Launch} (hk : k ≤ 3) (hi : i + 4 ≤ L) (hS : va_S (fun q : Nat => s.heap.size ≤ q) s.heap H locs) (hl : lv_has ls 4 [(0, .ref b), (1, v1), (2, v2), (3, .int (nI i))]) (d0 : decode code pc = .ok (.aload_n 0, 1)) (d1 : decode code (pc + 1) = .ok (.iload_n 3, 1)) (d2 : decode code (pc + 2) = .ok (.iconst z, 1)) (hz : Int32.ofInt z = nI k) (d3 : decode code (pc + 3) = .ok (.iadd, 1)) (d4 : decode code (pc + 4) = .ok (.iaload, 1))
    (kk : W p l e R s m #[Value.ref b] below meth c H locs K N Q (F0 m (pc + 5) ls (.int (xs (i + k)) :: rest))) : W p l e R s m #[Value.ref b] below meth c H locs K N Q (F0 m pc ls rest) := by
  obtain ⟨⟨hx, hb, hrt, hml, hown, hts, hX, hbl, hlocks, hgv⟩, hT, hnew⟩ := C
  refine lv_aload_n hx hb d0 rfl (lv_at hl 0 rfl) ?_
  refine lv_iload_n hx hb d1 rfl (lv_at hl 3 rfl) ?_
  refine lv_iconst (v := nI k) hx hb d2 hz ?_
  refine lv_iadd hx hb d3 ?_
  rw [nI_add]
  refine va_sld (A := fun q : Nat => s.heap.size ≤ q) hx hb hX hbl (Nat.not_le.mpr hbl) hS (vp_nI (by omega) (by omega)) d4 ?_
  rw [ix_nI (n := i + k) (by omega)]
  exact kk
theorem lkL_9 : Cond.methodLink RL 9 yX6_init ∈ GW := gw_of 82 (by decide +kernel) (by decide +kernel)
theorem lkL_12 : Cond.methodLink RL 12 yX7_init ∈ GW := gw_of 799 (by decide +kernel) (by decide +kernel)
theorem lkL_13 : Cond.methodLink RL 13 yX6_append ∈ GW := gw_of 340 (by decide +kernel) (by decide +kernel)
theorem lkL_17 : Cond.methodLink RL 17 yX7_append ∈ GW := gw_of 856 (by decide +kernel) (by decide +kernel)
theorem lkL_18 : Cond.methodLink RL 18 yX6_clearText ∈ GW := gw_of 344 (by decide +kernel) (by decide +kernel)
theorem lkL_22 : Cond.methodLink RL 22 yX7_clearText ∈ GW := gw_of 863 (by decide +kernel) (by decide +kernel)
theorem lkL_23 : Cond.methodLink RL 23 yX6_load ∈ GW := gw_of 348 (by decide +kernel) (by decide +kernel)
theorem lkL_26 : Cond.methodLink RL 26 yX7_load ∈ GW := gw_of 867 (by decide +kernel) (by decide +kernel)
theorem lkL_27 : Cond.methodLink RL 27 yX6_objectCount ∈ GW := gw_of 510 (by decide +kernel) (by decide +kernel)
theorem lkL_30 : Cond.methodLink RL 30 yX7_objectCount ∈ GW := gw_of 921 (by decide +kernel) (by decide +kernel)
theorem lkL_31 : Cond.methodLink RL 31 yX6_kind ∈ GW := gw_of 514 (by decide +kernel) (by decide +kernel)
theorem lkL_34 : Cond.methodLink RL 34 yX7_kind ∈ GW := gw_of 925 (by decide +kernel) (by decide +kernel)
theorem lkL_35 : Cond.methodLink RL 35 yX6_behaviour ∈ GW := gw_of 519 (by decide +kernel) (by decide +kernel)
theorem lkL_38 : Cond.methodLink RL 38 yX7_behaviour ∈ GW := gw_of 933 (by decide +kernel) (by decide +kernel)
theorem lkL_39 : Cond.methodLink RL 39 yX6_setBehaviour ∈ GW := gw_of 524 (by decide +kernel) (by decide +kernel)
theorem lkL_43 : Cond.methodLink RL 43 yX7_setBehaviour ∈ GW := gw_of 941 (by decide +kernel) (by decide +kernel)
theorem lkL_44 : Cond.methodLink RL 44 yX6_setGroup ∈ GW := gw_of 528 (by decide +kernel) (by decide +kernel)
theorem lkL_47 : Cond.methodLink RL 47 yX7_setGroup ∈ GW := gw_of 949 (by decide +kernel) (by decide +kernel)
theorem lkL_48 : Cond.methodLink RL 48 yX6_addReference ∈ GW := gw_of 532 (by decide +kernel) (by decide +kernel)
theorem lkL_51 : Cond.methodLink RL 51 yX7_addReference ∈ GW := gw_of 953 (by decide +kernel) (by decide +kernel)
theorem lkL_52 : Cond.methodLink RL 52 yX6_removeReference ∈ GW := gw_of 539 (by decide +kernel) (by decide +kernel)
theorem lkL_55 : Cond.methodLink RL 55 yX7_removeReference ∈ GW := gw_of 957 (by decide +kernel) (by decide +kernel)
theorem lkL_56 : Cond.methodLink RL 56 yX6_referenceCount ∈ GW := gw_of 547 (by decide +kernel) (by decide +kernel)
theorem lkL_59 : Cond.methodLink RL 59 yX7_referenceCount ∈ GW := gw_of 961 (by decide +kernel) (by decide +kernel)
theorem lkL_60 : Cond.methodLink RL 60 yX6_mayHold ∈ GW := gw_of 551 (by decide +kernel) (by decide +kernel)
theorem lkL_63 : Cond.methodLink RL 63 yX7_mayHold ∈ GW := gw_of 965 (by decide +kernel) (by decide +kernel)
theorem lkL_64 : Cond.methodLink RL 64 yX6_round ∈ GW := gw_of 665 (by decide +kernel) (by decide +kernel)
theorem lkL_67 : Cond.methodLink RL 67 yX7_round ∈ GW := gw_of 1032 (by decide +kernel) (by decide +kernel)
theorem lkL_68 : Cond.methodLink RL 68 yX6_rule ∈ GW := gw_of 670 (by decide +kernel) (by decide +kernel)
theorem lkL_71 : Cond.methodLink RL 71 yX7_rule ∈ GW := gw_of 1036 (by decide +kernel) (by decide +kernel)
theorem lkL_72 : Cond.methodLink RL 72 yX6_partner ∈ GW := gw_of 674 (by decide +kernel) (by decide +kernel)
theorem lkL_75 : Cond.methodLink RL 75 yX7_partner ∈ GW := gw_of 1040 (by decide +kernel) (by decide +kernel)
theorem lkL_76 : Cond.methodLink RL 76 yX6_derivationSize ∈ GW := gw_of 678 (by decide +kernel) (by decide +kernel)
theorem lkL_79 : Cond.methodLink RL 79 yX7_derivationSize ∈ GW := gw_of 1044 (by decide +kernel) (by decide +kernel)
theorem lkL_80 : Cond.methodLink RL 80 yX6_lastRound ∈ GW := gw_of 690 (by decide +kernel) (by decide +kernel)
theorem lkL_83 : Cond.methodLink RL 83 yX7_lastRound ∈ GW := gw_of 1056 (by decide +kernel) (by decide +kernel)
theorem lkL_84 : Cond.methodLink RL 84 yX6_coarselyMayHold ∈ GW := gw_of 694 (by decide +kernel) (by decide +kernel)
theorem lkL_87 : Cond.methodLink RL 87 yX7_coarselyMayHold ∈ GW := gw_of 1060 (by decide +kernel) (by decide +kernel)
theorem lkL_88 : Cond.methodLink RL 88 yX6_forbid ∈ GW := gw_of 698 (by decide +kernel) (by decide +kernel)
theorem lkL_91 : Cond.methodLink RL 91 yX7_forbid ∈ GW := gw_of 1072 (by decide +kernel) (by decide +kernel)
theorem lkL_92 : Cond.methodLink RL 92 yX6_permit ∈ GW := gw_of 710 (by decide +kernel) (by decide +kernel)
theorem lkL_95 : Cond.methodLink RL 95 yX7_permit ∈ GW := gw_of 1080 (by decide +kernel) (by decide +kernel)
theorem lkL_96 : Cond.methodLink RL 96 yX6_violationCount ∈ GW := gw_of 718 (by decide +kernel) (by decide +kernel)
theorem lkL_99 : Cond.methodLink RL 99 yX7_violationCount ∈ GW := gw_of 1084 (by decide +kernel) (by decide +kernel)
theorem lkL_100 : Cond.methodLink RL 100 yX6_smallestRepair ∈ GW := gw_of 726 (by decide +kernel) (by decide +kernel)
theorem lkL_103 : Cond.methodLink RL 103 yX7_smallestRepair ∈ GW := gw_of 1092 (by decide +kernel) (by decide +kernel)
theorem lkL_104 : Cond.methodLink RL 104 yX6_give ∈ GW := gw_of 745 (by decide +kernel) (by decide +kernel)
theorem lkL_108 : Cond.methodLink RL 108 yX7_give ∈ GW := gw_of 1099 (by decide +kernel) (by decide +kernel)
theorem lkL_109 : Cond.methodLink RL 109 yX6_take ∈ GW := gw_of 759 (by decide +kernel) (by decide +kernel)
theorem lkL_112 : Cond.methodLink RL 112 yX7_take_ ∈ GW := gw_of 1111 (by decide +kernel) (by decide +kernel)
theorem lkL_113 : Cond.methodLink RL 113 yX6_open ∈ GW := gw_of 763 (by decide +kernel) (by decide +kernel)
theorem lkL_116 : Cond.methodLink RL 116 yX7_open ∈ GW := gw_of 1115 (by decide +kernel) (by decide +kernel)
theorem lkL_117 : Cond.methodLink RL 117 yX6_create ∈ GW := gw_of 768 (by decide +kernel) (by decide +kernel)
theorem lkL_120 : Cond.methodLink RL 120 yX7_create ∈ GW := gw_of 1119 (by decide +kernel) (by decide +kernel)
theorem lkL_121 : Cond.methodLink RL 121 yX6_restartRun ∈ GW := gw_of 773 (by decide +kernel) (by decide +kernel)
theorem lkL_124 : Cond.methodLink RL 124 yX7_restartRun ∈ GW := gw_of 1123 (by decide +kernel) (by decide +kernel)
theorem lkL_125 : Cond.methodLink RL 125 yX6_holdsInRun ∈ GW := gw_of 781 (by decide +kernel) (by decide +kernel)
theorem lkL_128 : Cond.methodLink RL 128 yX7_holdsInRun ∈ GW := gw_of 1127 (by decide +kernel) (by decide +kernel)
theorem lkL_129 : Cond.methodLink RL 129 yX6_undo ∈ GW := gw_of 785 (by decide +kernel) (by decide +kernel)
theorem lkL_132 : Cond.methodLink RL 132 yX7_undo ∈ GW := gw_of 1131 (by decide +kernel) (by decide +kernel)
theorem lkL_133 : Cond.methodLink RL 133 yX6_undoDepth ∈ GW := gw_of 793 (by decide +kernel) (by decide +kernel)
theorem lkL_136 : Cond.methodLink RL 136 yX7_undoDepth ∈ GW := gw_of 1135 (by decide +kernel) (by decide +kernel)
theorem lw_c0 (C : LwX Γ p s m meth c b L xs) (hL : L ≤ 2048) {i : Nat} (hi : i + 4 ≤ L) {a : Ab} (I : LwI Γ s a g H locs) (hl : lv_has ls 4 [(0, .ref b), (1, .ref (Γ.2.2.2.1 0)), (2, .ref (Γ.2.2.2.1 26)), (3, .int (nI i))]) (next : ∀ (a' : Ab) (g' : Mem) (H' : Heap) (locs' : List Loc), LwI Γ s a' g' H' locs' → W p Γ.1 e room_1 s m #[Value.ref b] below meth c H' locs' 104 2677 Q (F0 m 948 ls [])) : W p Γ.1 e room_1 s m #[Value.ref b] below meth c H locs 104 2677 Q (F0 m 168 ls []) := by
  obtain ⟨hx, hb, hrt, hml, hown, hts, hX, hbl, hlocks, hgv⟩ := C.1
  obtain ⟨I1, I2, I3, hP, hS⟩ := I
  refine lv_aload_n hx hb dL_law_168 rfl (lv_at hl 1 rfl) ?_
  refine lw_arg C hL (k := 1) (by decide) hi hS hl dL_law_169 dL_law_170 dL_law_171 rfl dL_law_172 dL_law_173 ?_
  refine lw_call C [.inl (xs (i + 1))] lkL_13 ckX6_append ca_0 rfl (Nat.le_of_ble_eq_true rfl) rfl (Nat.le_of_ble_eq_true rfl) hl.1 hP hS rfl dL_law_174 rfl (oc_append I1 I3) (fun r1 g1 H locs q1 hP hS => ?_)
  obtain ⟨e1, c1, f1⟩ := q1
  refine lv_aload_n hx hb dL_law_177 rfl (lv_at hl 2 rfl) ?_
  refine lw_arg C hL (k := 1) (by decide) hi hS hl dL_law_178 dL_law_179 dL_law_180 rfl dL_law_181 dL_law_182 ?_
  refine lw_call C [.inl (xs (i + 1))] lkL_17 ckX7_append ca_26 rfl (Nat.le_of_ble_eq_true rfl) rfl (Nat.le_of_ble_eq_true rfl) hl.1 hP hS rfl dL_law_183 rfl (om_append (I2.ext f1) I3) (fun r2 g2 H locs q2 hP hS => ?_)
  obtain ⟨e2, c2, f2⟩ := q2
  refine lv_icmp_eq (tgt := 948) hx hb dL_law_186 (by decide) (fun _ => ?_) (fun z => absurd (e1.trans e2.symm) z)
  exact next _ g2 H locs ⟨c1.ext f2, c2, (wa_append I3), hP, hS⟩
theorem lw_c1 (C : LwX Γ p s m meth c b L xs) (hL : L ≤ 2048) {i : Nat} (hi : i + 4 ≤ L) {a : Ab} (I : LwI Γ s a g H locs) (hl : lv_has ls 4 [(0, .ref b), (1, .ref (Γ.2.2.2.1 0)), (2, .ref (Γ.2.2.2.1 26)), (3, .int (nI i))]) (next : ∀ (a' : Ab) (g' : Mem) (H' : Heap) (locs' : List Loc), LwI Γ s a' g' H' locs' → W p Γ.1 e room_1 s m #[Value.ref b] below meth c H' locs' 104 2677 Q (F0 m 948 ls [])) : W p Γ.1 e room_1 s m #[Value.ref b] below meth c H locs 104 2677 Q (F0 m 191 ls []) := by
  obtain ⟨hx, hb, hrt, hml, hown, hts, hX, hbl, hlocks, hgv⟩ := C.1
  obtain ⟨I1, I2, I3, hP, hS⟩ := I
  refine lv_aload_n hx hb dL_law_191 rfl (lv_at hl 1 rfl) ?_
  refine lw_call C [] lkL_18 ckX6_clearText ca_0 rfl (Nat.le_of_ble_eq_true rfl) rfl (Nat.le_of_ble_eq_true rfl) hl.1 hP hS rfl dL_law_192 rfl (oc_clear I1) (fun r1 g1 H locs q1 hP hS => ?_)
  obtain ⟨e1, c1, f1⟩ := q1
  refine lv_aload_n hx hb dL_law_195 rfl (lv_at hl 2 rfl) ?_
  refine lw_call C [] lkL_22 ckX7_clearText ca_26 rfl (Nat.le_of_ble_eq_true rfl) rfl (Nat.le_of_ble_eq_true rfl) hl.1 hP hS rfl dL_law_196 rfl (om_clear (I2.ext f1)) (fun r2 g2 H locs q2 hP hS => ?_)
  obtain ⟨e2, c2, f2⟩ := q2
  refine lv_icmp_eq (tgt := 948) hx hb dL_law_199 (by decide) (fun _ => ?_) (fun z => absurd (e1.trans e2.symm) z)
  exact next _ g2 H locs ⟨c1.ext f2, c2, (wa_clear I3), hP, hS⟩
theorem lw_c2 (C : LwX Γ p s m meth c b L xs) (hL : L ≤ 2048) {i : Nat} (hi : i + 4 ≤ L) {a : Ab} (I : LwI Γ s a g H locs) (hl : lv_has ls 4 [(0, .ref b), (1, .ref (Γ.2.2.2.1 0)), (2, .ref (Γ.2.2.2.1 26)), (3, .int (nI i))]) (next : ∀ (a' : Ab) (g' : Mem) (H' : Heap) (locs' : List Loc), LwI Γ s a' g' H' locs' → W p Γ.1 e room_1 s m #[Value.ref b] below meth c H' locs' 104 2677 Q (F0 m 948 ls [])) : W p Γ.1 e room_1 s m #[Value.ref b] below meth c H locs 104 2677 Q (F0 m 204 ls []) := by
  obtain ⟨hx, hb, hrt, hml, hown, hts, hX, hbl, hlocks, hgv⟩ := C.1
  obtain ⟨I1, I2, I3, hP, hS⟩ := I
  refine lv_aload_n hx hb dL_law_204 rfl (lv_at hl 1 rfl) ?_
  refine lw_call C [] lkL_23 ckX6_load ca_0 rfl (Nat.le_of_ble_eq_true rfl) rfl (Nat.le_of_ble_eq_true rfl) hl.1 hP hS rfl dL_law_205 rfl (oc_load I1 I3) (fun r1 g1 H locs q1 hP hS => ?_)
  obtain ⟨e1, c1, f1⟩ := q1
  refine lv_aload_n hx hb dL_law_208 rfl (lv_at hl 2 rfl) ?_
  refine lw_call C [] lkL_26 ckX7_load ca_26 rfl (Nat.le_of_ble_eq_true rfl) rfl (Nat.le_of_ble_eq_true rfl) hl.1 hP hS rfl dL_law_209 rfl (om_load (I2.ext f1) I3) (fun r2 g2 H locs q2 hP hS => ?_)
  obtain ⟨e2, c2, f2⟩ := q2
  refine lv_icmp_eq (tgt := 948) hx hb dL_law_212 (by decide) (fun _ => ?_) (fun z => absurd (e1.trans e2.symm) z)
  exact next _ g2 H locs ⟨c1.ext f2, c2, (wa_load I3), hP, hS⟩
theorem lw_c3 (C : LwX Γ p s m meth c b L xs) (hL : L ≤ 2048) {i : Nat} (hi : i + 4 ≤ L) {a : Ab} (I : LwI Γ s a g H locs) (hl : lv_has ls 4 [(0, .ref b), (1, .ref (Γ.2.2.2.1 0)), (2, .ref (Γ.2.2.2.1 26)), (3, .int (nI i))]) (next : ∀ (a' : Ab) (g' : Mem) (H' : Heap) (locs' : List Loc), LwI Γ s a' g' H' locs' → W p Γ.1 e room_1 s m #[Value.ref b] below meth c H' locs' 104 2677 Q (F0 m 948 ls [])) : W p Γ.1 e room_1 s m #[Value.ref b] below meth c H locs 104 2677 Q (F0 m 217 ls []) := by
  obtain ⟨hx, hb, hrt, hml, hown, hts, hX, hbl, hlocks, hgv⟩ := C.1
  obtain ⟨I1, I2, I3, hP, hS⟩ := I
  refine lv_aload_n hx hb dL_law_217 rfl (lv_at hl 1 rfl) ?_
  refine lw_call C [] lkL_27 ckX6_objectCount ca_0 rfl (Nat.le_of_ble_eq_true rfl) rfl (Nat.le_of_ble_eq_true rfl) hl.1 hP hS rfl dL_law_218 rfl (oc_objectCount I1) (fun r1 g1 H locs q1 hP hS => ?_)
  obtain ⟨e1, c1, f1⟩ := q1
  refine lv_aload_n hx hb dL_law_221 rfl (lv_at hl 2 rfl) ?_
  refine lw_call C [] lkL_30 ckX7_objectCount ca_26 rfl (Nat.le_of_ble_eq_true rfl) rfl (Nat.le_of_ble_eq_true rfl) hl.1 hP hS rfl dL_law_222 rfl (om_objectCount (I2.ext f1)) (fun r2 g2 H locs q2 hP hS => ?_)
  obtain ⟨e2, c2, f2⟩ := q2
  refine lv_icmp_eq (tgt := 948) hx hb dL_law_225 (by decide) (fun _ => ?_) (fun z => absurd (e1.trans e2.symm) z)
  exact next _ g2 H locs ⟨c1.ext f2, c2, I3, hP, hS⟩
theorem lw_c4 (C : LwX Γ p s m meth c b L xs) (hL : L ≤ 2048) {i : Nat} (hi : i + 4 ≤ L) {a : Ab} (I : LwI Γ s a g H locs) (hl : lv_has ls 4 [(0, .ref b), (1, .ref (Γ.2.2.2.1 0)), (2, .ref (Γ.2.2.2.1 26)), (3, .int (nI i))]) (next : ∀ (a' : Ab) (g' : Mem) (H' : Heap) (locs' : List Loc), LwI Γ s a' g' H' locs' → W p Γ.1 e room_1 s m #[Value.ref b] below meth c H' locs' 104 2677 Q (F0 m 948 ls [])) : W p Γ.1 e room_1 s m #[Value.ref b] below meth c H locs 104 2677 Q (F0 m 230 ls []) := by
  obtain ⟨hx, hb, hrt, hml, hown, hts, hX, hbl, hlocks, hgv⟩ := C.1
  obtain ⟨I1, I2, I3, hP, hS⟩ := I
  refine lv_aload_n hx hb dL_law_230 rfl (lv_at hl 1 rfl) ?_
  refine lw_arg C hL (k := 1) (by decide) hi hS hl dL_law_231 dL_law_232 dL_law_233 rfl dL_law_234 dL_law_235 ?_
  refine lw_call C [.inl (xs (i + 1))] lkL_31 ckX6_kind ca_0 rfl (Nat.le_of_ble_eq_true rfl) rfl (Nat.le_of_ble_eq_true rfl) hl.1 hP hS rfl dL_law_236 rfl (oc_kind I1 I3) (fun r1 g1 H locs q1 hP hS => ?_)
  obtain ⟨e1, c1, f1⟩ := q1
  refine lv_aload_n hx hb dL_law_239 rfl (lv_at hl 2 rfl) ?_
  refine lw_arg C hL (k := 1) (by decide) hi hS hl dL_law_240 dL_law_241 dL_law_242 rfl dL_law_243 dL_law_244 ?_
  refine lw_call C [.inl (xs (i + 1))] lkL_34 ckX7_kind ca_26 rfl (Nat.le_of_ble_eq_true rfl) rfl (Nat.le_of_ble_eq_true rfl) hl.1 hP hS rfl dL_law_245 rfl (om_kind (I2.ext f1) I3) (fun r2 g2 H locs q2 hP hS => ?_)
  obtain ⟨e2, c2, f2⟩ := q2
  refine lv_icmp_eq (tgt := 948) hx hb dL_law_248 (by decide) (fun _ => ?_) (fun z => absurd (e1.trans e2.symm) z)
  exact next _ g2 H locs ⟨c1.ext f2, c2, I3, hP, hS⟩
theorem lw_c5 (C : LwX Γ p s m meth c b L xs) (hL : L ≤ 2048) {i : Nat} (hi : i + 4 ≤ L) {a : Ab} (I : LwI Γ s a g H locs) (hl : lv_has ls 4 [(0, .ref b), (1, .ref (Γ.2.2.2.1 0)), (2, .ref (Γ.2.2.2.1 26)), (3, .int (nI i))]) (next : ∀ (a' : Ab) (g' : Mem) (H' : Heap) (locs' : List Loc), LwI Γ s a' g' H' locs' → W p Γ.1 e room_1 s m #[Value.ref b] below meth c H' locs' 104 2677 Q (F0 m 948 ls [])) : W p Γ.1 e room_1 s m #[Value.ref b] below meth c H locs 104 2677 Q (F0 m 253 ls []) := by
  obtain ⟨hx, hb, hrt, hml, hown, hts, hX, hbl, hlocks, hgv⟩ := C.1
  obtain ⟨I1, I2, I3, hP, hS⟩ := I
  refine lv_aload_n hx hb dL_law_253 rfl (lv_at hl 1 rfl) ?_
  refine lw_arg C hL (k := 1) (by decide) hi hS hl dL_law_254 dL_law_255 dL_law_256 rfl dL_law_257 dL_law_258 ?_
  refine lw_call C [.inl (xs (i + 1))] lkL_35 ckX6_behaviour ca_0 rfl (Nat.le_of_ble_eq_true rfl) rfl (Nat.le_of_ble_eq_true rfl) hl.1 hP hS rfl dL_law_259 rfl (oc_behaviour I1 I3) (fun r1 g1 H locs q1 hP hS => ?_)
  obtain ⟨e1, c1, f1⟩ := q1
  refine lv_aload_n hx hb dL_law_262 rfl (lv_at hl 2 rfl) ?_
  refine lw_arg C hL (k := 1) (by decide) hi hS hl dL_law_263 dL_law_264 dL_law_265 rfl dL_law_266 dL_law_267 ?_
  refine lw_call C [.inl (xs (i + 1))] lkL_38 ckX7_behaviour ca_26 rfl (Nat.le_of_ble_eq_true rfl) rfl (Nat.le_of_ble_eq_true rfl) hl.1 hP hS rfl dL_law_268 rfl (om_behaviour (I2.ext f1) I3) (fun r2 g2 H locs q2 hP hS => ?_)
  obtain ⟨e2, c2, f2⟩ := q2
  refine lv_icmp_eq (tgt := 948) hx hb dL_law_271 (by decide) (fun _ => ?_) (fun z => absurd (e1.trans e2.symm) z)
  exact next _ g2 H locs ⟨c1.ext f2, c2, I3, hP, hS⟩
theorem lw_c6 (C : LwX Γ p s m meth c b L xs) (hL : L ≤ 2048) {i : Nat} (hi : i + 4 ≤ L) {a : Ab} (I : LwI Γ s a g H locs) (hl : lv_has ls 4 [(0, .ref b), (1, .ref (Γ.2.2.2.1 0)), (2, .ref (Γ.2.2.2.1 26)), (3, .int (nI i))]) (next : ∀ (a' : Ab) (g' : Mem) (H' : Heap) (locs' : List Loc), LwI Γ s a' g' H' locs' → W p Γ.1 e room_1 s m #[Value.ref b] below meth c H' locs' 104 2677 Q (F0 m 948 ls [])) : W p Γ.1 e room_1 s m #[Value.ref b] below meth c H locs 104 2677 Q (F0 m 276 ls []) := by
  obtain ⟨hx, hb, hrt, hml, hown, hts, hX, hbl, hlocks, hgv⟩ := C.1
  obtain ⟨I1, I2, I3, hP, hS⟩ := I
  refine lv_aload_n hx hb dL_law_276 rfl (lv_at hl 1 rfl) ?_
  refine lw_arg C hL (k := 1) (by decide) hi hS hl dL_law_277 dL_law_278 dL_law_279 rfl dL_law_280 dL_law_281 ?_
  refine lw_arg C hL (k := 2) (by decide) hi hS hl dL_law_282 dL_law_283 dL_law_284 rfl dL_law_285 dL_law_286 ?_
  refine lw_call C [.inl (xs (i + 1)), .inl (xs (i + 2))] lkL_39 ckX6_setBehaviour ca_0 rfl (Nat.le_of_ble_eq_true rfl) rfl (Nat.le_of_ble_eq_true rfl) hl.1 hP hS rfl dL_law_287 rfl (oc_setBehaviour I1 I3) (fun r1 g1 H locs q1 hP hS => ?_)
  obtain ⟨e1, c1, f1⟩ := q1
  refine lv_aload_n hx hb dL_law_290 rfl (lv_at hl 2 rfl) ?_
  refine lw_arg C hL (k := 1) (by decide) hi hS hl dL_law_291 dL_law_292 dL_law_293 rfl dL_law_294 dL_law_295 ?_
  refine lw_arg C hL (k := 2) (by decide) hi hS hl dL_law_296 dL_law_297 dL_law_298 rfl dL_law_299 dL_law_300 ?_
  refine lw_call C [.inl (xs (i + 1)), .inl (xs (i + 2))] lkL_43 ckX7_setBehaviour ca_26 rfl (Nat.le_of_ble_eq_true rfl) rfl (Nat.le_of_ble_eq_true rfl) hl.1 hP hS rfl dL_law_301 rfl (om_setBehaviour (I2.ext f1) I3) (fun r2 g2 H locs q2 hP hS => ?_)
  obtain ⟨e2, c2, f2⟩ := q2
  refine lv_icmp_eq (tgt := 948) hx hb dL_law_304 (by decide) (fun _ => ?_) (fun z => absurd (e1.trans e2.symm) z)
  exact next _ g2 H locs ⟨c1.ext f2, c2, (wa_setBehaviour I3), hP, hS⟩
theorem lw_c7 (C : LwX Γ p s m meth c b L xs) (hL : L ≤ 2048) {i : Nat} (hi : i + 4 ≤ L) {a : Ab} (I : LwI Γ s a g H locs) (hl : lv_has ls 4 [(0, .ref b), (1, .ref (Γ.2.2.2.1 0)), (2, .ref (Γ.2.2.2.1 26)), (3, .int (nI i))]) (next : ∀ (a' : Ab) (g' : Mem) (H' : Heap) (locs' : List Loc), LwI Γ s a' g' H' locs' → W p Γ.1 e room_1 s m #[Value.ref b] below meth c H' locs' 104 2677 Q (F0 m 948 ls [])) : W p Γ.1 e room_1 s m #[Value.ref b] below meth c H locs 104 2677 Q (F0 m 309 ls []) := by
  obtain ⟨hx, hb, hrt, hml, hown, hts, hX, hbl, hlocks, hgv⟩ := C.1
  obtain ⟨I1, I2, I3, hP, hS⟩ := I
  refine lv_aload_n hx hb dL_law_309 rfl (lv_at hl 1 rfl) ?_
  refine lw_arg C hL (k := 1) (by decide) hi hS hl dL_law_310 dL_law_311 dL_law_312 rfl dL_law_313 dL_law_314 ?_
  refine lw_arg C hL (k := 2) (by decide) hi hS hl dL_law_315 dL_law_316 dL_law_317 rfl dL_law_318 dL_law_319 ?_
  refine lw_call C [.inl (xs (i + 1)), .inl (xs (i + 2))] lkL_44 ckX6_setGroup ca_0 rfl (Nat.le_of_ble_eq_true rfl) rfl (Nat.le_of_ble_eq_true rfl) hl.1 hP hS rfl dL_law_320 rfl (oc_setGroup I1 I3) (fun r1 g1 H locs q1 hP hS => ?_)
  obtain ⟨e1, c1, f1⟩ := q1
  refine lv_aload_n hx hb dL_law_323 rfl (lv_at hl 2 rfl) ?_
  refine lw_arg C hL (k := 1) (by decide) hi hS hl dL_law_324 dL_law_325 dL_law_326 rfl dL_law_327 dL_law_328 ?_
  refine lw_arg C hL (k := 2) (by decide) hi hS hl dL_law_329 dL_law_330 dL_law_331 rfl dL_law_332 dL_law_333 ?_
  refine lw_call C [.inl (xs (i + 1)), .inl (xs (i + 2))] lkL_47 ckX7_setGroup ca_26 rfl (Nat.le_of_ble_eq_true rfl) rfl (Nat.le_of_ble_eq_true rfl) hl.1 hP hS rfl dL_law_334 rfl (om_setGroup (I2.ext f1) I3) (fun r2 g2 H locs q2 hP hS => ?_)
  obtain ⟨e2, c2, f2⟩ := q2
  refine lv_icmp_eq (tgt := 948) hx hb dL_law_337 (by decide) (fun _ => ?_) (fun z => absurd (e1.trans e2.symm) z)
  exact next _ g2 H locs ⟨c1.ext f2, c2, (wa_setGroup I3), hP, hS⟩
theorem lw_c8 (C : LwX Γ p s m meth c b L xs) (hL : L ≤ 2048) {i : Nat} (hi : i + 4 ≤ L) {a : Ab} (I : LwI Γ s a g H locs) (hl : lv_has ls 4 [(0, .ref b), (1, .ref (Γ.2.2.2.1 0)), (2, .ref (Γ.2.2.2.1 26)), (3, .int (nI i))]) (next : ∀ (a' : Ab) (g' : Mem) (H' : Heap) (locs' : List Loc), LwI Γ s a' g' H' locs' → W p Γ.1 e room_1 s m #[Value.ref b] below meth c H' locs' 104 2677 Q (F0 m 948 ls [])) : W p Γ.1 e room_1 s m #[Value.ref b] below meth c H locs 104 2677 Q (F0 m 342 ls []) := by
  obtain ⟨hx, hb, hrt, hml, hown, hts, hX, hbl, hlocks, hgv⟩ := C.1
  obtain ⟨I1, I2, I3, hP, hS⟩ := I
  refine lv_aload_n hx hb dL_law_342 rfl (lv_at hl 1 rfl) ?_
  refine lw_arg C hL (k := 1) (by decide) hi hS hl dL_law_343 dL_law_344 dL_law_345 rfl dL_law_346 dL_law_347 ?_
  refine lw_arg C hL (k := 2) (by decide) hi hS hl dL_law_348 dL_law_349 dL_law_350 rfl dL_law_351 dL_law_352 ?_
  refine lw_call C [.inl (xs (i + 1)), .inl (xs (i + 2))] lkL_48 ckX6_addReference ca_0 rfl (Nat.le_of_ble_eq_true rfl) rfl (Nat.le_of_ble_eq_true rfl) hl.1 hP hS rfl dL_law_353 rfl (oc_addReference I1 I3) (fun r1 g1 H locs q1 hP hS => ?_)
  obtain ⟨e1, c1, f1⟩ := q1
  refine lv_aload_n hx hb dL_law_356 rfl (lv_at hl 2 rfl) ?_
  refine lw_arg C hL (k := 1) (by decide) hi hS hl dL_law_357 dL_law_358 dL_law_359 rfl dL_law_360 dL_law_361 ?_
  refine lw_arg C hL (k := 2) (by decide) hi hS hl dL_law_362 dL_law_363 dL_law_364 rfl dL_law_365 dL_law_366 ?_
  refine lw_call C [.inl (xs (i + 1)), .inl (xs (i + 2))] lkL_51 ckX7_addReference ca_26 rfl (Nat.le_of_ble_eq_true rfl) rfl (Nat.le_of_ble_eq_true rfl) hl.1 hP hS rfl dL_law_367 rfl (om_addReference (I2.ext f1) I3) (fun r2 g2 H locs q2 hP hS => ?_)
  obtain ⟨e2, c2, f2⟩ := q2
  refine lv_icmp_eq (tgt := 948) hx hb dL_law_370 (by decide) (fun _ => ?_) (fun z => absurd (e1.trans e2.symm) z)
  exact next _ g2 H locs ⟨c1.ext f2, c2, (wa_addReference I3), hP, hS⟩
theorem lw_c9 (C : LwX Γ p s m meth c b L xs) (hL : L ≤ 2048) {i : Nat} (hi : i + 4 ≤ L) {a : Ab} (I : LwI Γ s a g H locs) (hl : lv_has ls 4 [(0, .ref b), (1, .ref (Γ.2.2.2.1 0)), (2, .ref (Γ.2.2.2.1 26)), (3, .int (nI i))]) (next : ∀ (a' : Ab) (g' : Mem) (H' : Heap) (locs' : List Loc), LwI Γ s a' g' H' locs' → W p Γ.1 e room_1 s m #[Value.ref b] below meth c H' locs' 104 2677 Q (F0 m 948 ls [])) : W p Γ.1 e room_1 s m #[Value.ref b] below meth c H locs 104 2677 Q (F0 m 375 ls []) := by
  obtain ⟨hx, hb, hrt, hml, hown, hts, hX, hbl, hlocks, hgv⟩ := C.1
  obtain ⟨I1, I2, I3, hP, hS⟩ := I
  refine lv_aload_n hx hb dL_law_375 rfl (lv_at hl 1 rfl) ?_
  refine lw_arg C hL (k := 1) (by decide) hi hS hl dL_law_376 dL_law_377 dL_law_378 rfl dL_law_379 dL_law_380 ?_
  refine lw_call C [.inl (xs (i + 1))] lkL_52 ckX6_removeReference ca_0 rfl (Nat.le_of_ble_eq_true rfl) rfl (Nat.le_of_ble_eq_true rfl) hl.1 hP hS rfl dL_law_381 rfl (oc_removeReference I1 I3) (fun r1 g1 H locs q1 hP hS => ?_)
  obtain ⟨e1, c1, f1⟩ := q1
  refine lv_aload_n hx hb dL_law_384 rfl (lv_at hl 2 rfl) ?_
  refine lw_arg C hL (k := 1) (by decide) hi hS hl dL_law_385 dL_law_386 dL_law_387 rfl dL_law_388 dL_law_389 ?_
  refine lw_call C [.inl (xs (i + 1))] lkL_55 ckX7_removeReference ca_26 rfl (Nat.le_of_ble_eq_true rfl) rfl (Nat.le_of_ble_eq_true rfl) hl.1 hP hS rfl dL_law_390 rfl (om_removeReference (I2.ext f1) I3) (fun r2 g2 H locs q2 hP hS => ?_)
  obtain ⟨e2, c2, f2⟩ := q2
  refine lv_icmp_eq (tgt := 948) hx hb dL_law_393 (by decide) (fun _ => ?_) (fun z => absurd (e1.trans e2.symm) z)
  exact next _ g2 H locs ⟨c1.ext f2, c2, (wa_removeReference I3), hP, hS⟩
theorem lw_c10 (C : LwX Γ p s m meth c b L xs) (hL : L ≤ 2048) {i : Nat} (hi : i + 4 ≤ L) {a : Ab} (I : LwI Γ s a g H locs) (hl : lv_has ls 4 [(0, .ref b), (1, .ref (Γ.2.2.2.1 0)), (2, .ref (Γ.2.2.2.1 26)), (3, .int (nI i))]) (next : ∀ (a' : Ab) (g' : Mem) (H' : Heap) (locs' : List Loc), LwI Γ s a' g' H' locs' → W p Γ.1 e room_1 s m #[Value.ref b] below meth c H' locs' 104 2677 Q (F0 m 948 ls [])) : W p Γ.1 e room_1 s m #[Value.ref b] below meth c H locs 104 2677 Q (F0 m 398 ls []) := by
  obtain ⟨hx, hb, hrt, hml, hown, hts, hX, hbl, hlocks, hgv⟩ := C.1
  obtain ⟨I1, I2, I3, hP, hS⟩ := I
  refine lv_aload_n hx hb dL_law_398 rfl (lv_at hl 1 rfl) ?_
  refine lw_call C [] lkL_56 ckX6_referenceCount ca_0 rfl (Nat.le_of_ble_eq_true rfl) rfl (Nat.le_of_ble_eq_true rfl) hl.1 hP hS rfl dL_law_399 rfl (oc_referenceCount I1) (fun r1 g1 H locs q1 hP hS => ?_)
  obtain ⟨e1, c1, f1⟩ := q1
  refine lv_aload_n hx hb dL_law_402 rfl (lv_at hl 2 rfl) ?_
  refine lw_call C [] lkL_59 ckX7_referenceCount ca_26 rfl (Nat.le_of_ble_eq_true rfl) rfl (Nat.le_of_ble_eq_true rfl) hl.1 hP hS rfl dL_law_403 rfl (om_referenceCount (I2.ext f1)) (fun r2 g2 H locs q2 hP hS => ?_)
  obtain ⟨e2, c2, f2⟩ := q2
  refine lv_icmp_eq (tgt := 948) hx hb dL_law_406 (by decide) (fun _ => ?_) (fun z => absurd (e1.trans e2.symm) z)
  exact next _ g2 H locs ⟨c1.ext f2, c2, I3, hP, hS⟩
theorem lw_c11 (C : LwX Γ p s m meth c b L xs) (hL : L ≤ 2048) {i : Nat} (hi : i + 4 ≤ L) {a : Ab} (I : LwI Γ s a g H locs) (hl : lv_has ls 4 [(0, .ref b), (1, .ref (Γ.2.2.2.1 0)), (2, .ref (Γ.2.2.2.1 26)), (3, .int (nI i))]) (next : ∀ (a' : Ab) (g' : Mem) (H' : Heap) (locs' : List Loc), LwI Γ s a' g' H' locs' → W p Γ.1 e room_1 s m #[Value.ref b] below meth c H' locs' 104 2677 Q (F0 m 948 ls [])) : W p Γ.1 e room_1 s m #[Value.ref b] below meth c H locs 104 2677 Q (F0 m 411 ls []) := by
  obtain ⟨hx, hb, hrt, hml, hown, hts, hX, hbl, hlocks, hgv⟩ := C.1
  obtain ⟨I1, I2, I3, hP, hS⟩ := I
  refine lv_aload_n hx hb dL_law_411 rfl (lv_at hl 1 rfl) ?_
  refine lw_arg C hL (k := 1) (by decide) hi hS hl dL_law_412 dL_law_413 dL_law_414 rfl dL_law_415 dL_law_416 ?_
  refine lw_arg C hL (k := 2) (by decide) hi hS hl dL_law_417 dL_law_418 dL_law_419 rfl dL_law_420 dL_law_421 ?_
  refine lw_call C [.inl (xs (i + 1)), .inl (xs (i + 2))] lkL_60 ckX6_mayHold ca_0 rfl (Nat.le_of_ble_eq_true rfl) rfl (Nat.le_of_ble_eq_true rfl) hl.1 hP hS rfl dL_law_422 rfl (oc_mayHold I1 I3) (fun r1 g1 H locs q1 hP hS => ?_)
  obtain ⟨e1, c1, f1⟩ := q1
  refine lv_aload_n hx hb dL_law_425 rfl (lv_at hl 2 rfl) ?_
  refine lw_arg C hL (k := 1) (by decide) hi hS hl dL_law_426 dL_law_427 dL_law_428 rfl dL_law_429 dL_law_430 ?_
  refine lw_arg C hL (k := 2) (by decide) hi hS hl dL_law_431 dL_law_432 dL_law_433 rfl dL_law_434 dL_law_435 ?_
  refine lw_call C [.inl (xs (i + 1)), .inl (xs (i + 2))] lkL_63 ckX7_mayHold ca_26 rfl (Nat.le_of_ble_eq_true rfl) rfl (Nat.le_of_ble_eq_true rfl) hl.1 hP hS rfl dL_law_436 rfl (om_mayHold (I2.ext f1) I3) (fun r2 g2 H locs q2 hP hS => ?_)
  obtain ⟨e2, c2, f2⟩ := q2
  refine lv_icmp_eq (tgt := 948) hx hb dL_law_439 (by decide) (fun _ => ?_) (fun z => absurd (e1.trans e2.symm) z)
  exact next _ g2 H locs ⟨c1.ext f2, c2, I3, hP, hS⟩
theorem lw_c12 (C : LwX Γ p s m meth c b L xs) (hL : L ≤ 2048) {i : Nat} (hi : i + 4 ≤ L) {a : Ab} (I : LwI Γ s a g H locs) (hl : lv_has ls 4 [(0, .ref b), (1, .ref (Γ.2.2.2.1 0)), (2, .ref (Γ.2.2.2.1 26)), (3, .int (nI i))]) (next : ∀ (a' : Ab) (g' : Mem) (H' : Heap) (locs' : List Loc), LwI Γ s a' g' H' locs' → W p Γ.1 e room_1 s m #[Value.ref b] below meth c H' locs' 104 2677 Q (F0 m 948 ls [])) : W p Γ.1 e room_1 s m #[Value.ref b] below meth c H locs 104 2677 Q (F0 m 444 ls []) := by
  obtain ⟨hx, hb, hrt, hml, hown, hts, hX, hbl, hlocks, hgv⟩ := C.1
  obtain ⟨I1, I2, I3, hP, hS⟩ := I
  refine lv_aload_n hx hb dL_law_444 rfl (lv_at hl 1 rfl) ?_
  refine lw_arg C hL (k := 1) (by decide) hi hS hl dL_law_445 dL_law_446 dL_law_447 rfl dL_law_448 dL_law_449 ?_
  refine lw_arg C hL (k := 2) (by decide) hi hS hl dL_law_450 dL_law_451 dL_law_452 rfl dL_law_453 dL_law_454 ?_
  refine lw_call C [.inl (xs (i + 1)), .inl (xs (i + 2))] lkL_64 ckX6_round ca_0 rfl (Nat.le_of_ble_eq_true rfl) rfl (Nat.le_of_ble_eq_true rfl) hl.1 hP hS rfl dL_law_455 rfl (oc_round I1 I3) (fun r1 g1 H locs q1 hP hS => ?_)
  obtain ⟨e1, c1, f1⟩ := q1
  refine lv_aload_n hx hb dL_law_458 rfl (lv_at hl 2 rfl) ?_
  refine lw_arg C hL (k := 1) (by decide) hi hS hl dL_law_459 dL_law_460 dL_law_461 rfl dL_law_462 dL_law_463 ?_
  refine lw_arg C hL (k := 2) (by decide) hi hS hl dL_law_464 dL_law_465 dL_law_466 rfl dL_law_467 dL_law_468 ?_
  refine lw_call C [.inl (xs (i + 1)), .inl (xs (i + 2))] lkL_67 ckX7_round ca_26 rfl (Nat.le_of_ble_eq_true rfl) rfl (Nat.le_of_ble_eq_true rfl) hl.1 hP hS rfl dL_law_469 rfl (om_round (I2.ext f1) I3) (fun r2 g2 H locs q2 hP hS => ?_)
  obtain ⟨e2, c2, f2⟩ := q2
  refine lv_icmp_eq (tgt := 948) hx hb dL_law_472 (by decide) (fun _ => ?_) (fun z => absurd (e1.trans e2.symm) z)
  exact next _ g2 H locs ⟨c1.ext f2, c2, I3, hP, hS⟩
theorem lw_c13 (C : LwX Γ p s m meth c b L xs) (hL : L ≤ 2048) {i : Nat} (hi : i + 4 ≤ L) {a : Ab} (I : LwI Γ s a g H locs) (hl : lv_has ls 4 [(0, .ref b), (1, .ref (Γ.2.2.2.1 0)), (2, .ref (Γ.2.2.2.1 26)), (3, .int (nI i))]) (next : ∀ (a' : Ab) (g' : Mem) (H' : Heap) (locs' : List Loc), LwI Γ s a' g' H' locs' → W p Γ.1 e room_1 s m #[Value.ref b] below meth c H' locs' 104 2677 Q (F0 m 948 ls [])) : W p Γ.1 e room_1 s m #[Value.ref b] below meth c H locs 104 2677 Q (F0 m 477 ls []) := by
  obtain ⟨hx, hb, hrt, hml, hown, hts, hX, hbl, hlocks, hgv⟩ := C.1
  obtain ⟨I1, I2, I3, hP, hS⟩ := I
  refine lv_aload_n hx hb dL_law_477 rfl (lv_at hl 1 rfl) ?_
  refine lw_arg C hL (k := 1) (by decide) hi hS hl dL_law_478 dL_law_479 dL_law_480 rfl dL_law_481 dL_law_482 ?_
  refine lw_arg C hL (k := 2) (by decide) hi hS hl dL_law_483 dL_law_484 dL_law_485 rfl dL_law_486 dL_law_487 ?_
  refine lw_call C [.inl (xs (i + 1)), .inl (xs (i + 2))] lkL_68 ckX6_rule ca_0 rfl (Nat.le_of_ble_eq_true rfl) rfl (Nat.le_of_ble_eq_true rfl) hl.1 hP hS rfl dL_law_488 rfl (oc_rule I1 I3) (fun r1 g1 H locs q1 hP hS => ?_)
  obtain ⟨e1, c1, f1⟩ := q1
  refine lv_aload_n hx hb dL_law_491 rfl (lv_at hl 2 rfl) ?_
  refine lw_arg C hL (k := 1) (by decide) hi hS hl dL_law_492 dL_law_493 dL_law_494 rfl dL_law_495 dL_law_496 ?_
  refine lw_arg C hL (k := 2) (by decide) hi hS hl dL_law_497 dL_law_498 dL_law_499 rfl dL_law_500 dL_law_501 ?_
  refine lw_call C [.inl (xs (i + 1)), .inl (xs (i + 2))] lkL_71 ckX7_rule ca_26 rfl (Nat.le_of_ble_eq_true rfl) rfl (Nat.le_of_ble_eq_true rfl) hl.1 hP hS rfl dL_law_502 rfl (om_rule (I2.ext f1) I3) (fun r2 g2 H locs q2 hP hS => ?_)
  obtain ⟨e2, c2, f2⟩ := q2
  refine lv_icmp_eq (tgt := 948) hx hb dL_law_505 (by decide) (fun _ => ?_) (fun z => absurd (e1.trans e2.symm) z)
  exact next _ g2 H locs ⟨c1.ext f2, c2, I3, hP, hS⟩
theorem lw_c14 (C : LwX Γ p s m meth c b L xs) (hL : L ≤ 2048) {i : Nat} (hi : i + 4 ≤ L) {a : Ab} (I : LwI Γ s a g H locs) (hl : lv_has ls 4 [(0, .ref b), (1, .ref (Γ.2.2.2.1 0)), (2, .ref (Γ.2.2.2.1 26)), (3, .int (nI i))]) (next : ∀ (a' : Ab) (g' : Mem) (H' : Heap) (locs' : List Loc), LwI Γ s a' g' H' locs' → W p Γ.1 e room_1 s m #[Value.ref b] below meth c H' locs' 104 2677 Q (F0 m 948 ls [])) : W p Γ.1 e room_1 s m #[Value.ref b] below meth c H locs 104 2677 Q (F0 m 510 ls []) := by
  obtain ⟨hx, hb, hrt, hml, hown, hts, hX, hbl, hlocks, hgv⟩ := C.1
  obtain ⟨I1, I2, I3, hP, hS⟩ := I
  refine lv_aload_n hx hb dL_law_510 rfl (lv_at hl 1 rfl) ?_
  refine lw_arg C hL (k := 1) (by decide) hi hS hl dL_law_511 dL_law_512 dL_law_513 rfl dL_law_514 dL_law_515 ?_
  refine lw_arg C hL (k := 2) (by decide) hi hS hl dL_law_516 dL_law_517 dL_law_518 rfl dL_law_519 dL_law_520 ?_
  refine lw_call C [.inl (xs (i + 1)), .inl (xs (i + 2))] lkL_72 ckX6_partner ca_0 rfl (Nat.le_of_ble_eq_true rfl) rfl (Nat.le_of_ble_eq_true rfl) hl.1 hP hS rfl dL_law_521 rfl (oc_partner I1 I3) (fun r1 g1 H locs q1 hP hS => ?_)
  obtain ⟨e1, c1, f1⟩ := q1
  refine lv_aload_n hx hb dL_law_524 rfl (lv_at hl 2 rfl) ?_
  refine lw_arg C hL (k := 1) (by decide) hi hS hl dL_law_525 dL_law_526 dL_law_527 rfl dL_law_528 dL_law_529 ?_
  refine lw_arg C hL (k := 2) (by decide) hi hS hl dL_law_530 dL_law_531 dL_law_532 rfl dL_law_533 dL_law_534 ?_
  refine lw_call C [.inl (xs (i + 1)), .inl (xs (i + 2))] lkL_75 ckX7_partner ca_26 rfl (Nat.le_of_ble_eq_true rfl) rfl (Nat.le_of_ble_eq_true rfl) hl.1 hP hS rfl dL_law_535 rfl (om_partner (I2.ext f1) I3) (fun r2 g2 H locs q2 hP hS => ?_)
  obtain ⟨e2, c2, f2⟩ := q2
  refine lv_icmp_eq (tgt := 948) hx hb dL_law_538 (by decide) (fun _ => ?_) (fun z => absurd (e1.trans e2.symm) z)
  exact next _ g2 H locs ⟨c1.ext f2, c2, I3, hP, hS⟩
theorem lw_c15 (C : LwX Γ p s m meth c b L xs) (hL : L ≤ 2048) {i : Nat} (hi : i + 4 ≤ L) {a : Ab} (I : LwI Γ s a g H locs) (hl : lv_has ls 4 [(0, .ref b), (1, .ref (Γ.2.2.2.1 0)), (2, .ref (Γ.2.2.2.1 26)), (3, .int (nI i))]) (next : ∀ (a' : Ab) (g' : Mem) (H' : Heap) (locs' : List Loc), LwI Γ s a' g' H' locs' → W p Γ.1 e room_1 s m #[Value.ref b] below meth c H' locs' 104 2677 Q (F0 m 948 ls [])) : W p Γ.1 e room_1 s m #[Value.ref b] below meth c H locs 104 2677 Q (F0 m 543 ls []) := by
  obtain ⟨hx, hb, hrt, hml, hown, hts, hX, hbl, hlocks, hgv⟩ := C.1
  obtain ⟨I1, I2, I3, hP, hS⟩ := I
  refine lv_aload_n hx hb dL_law_543 rfl (lv_at hl 1 rfl) ?_
  refine lw_arg C hL (k := 1) (by decide) hi hS hl dL_law_544 dL_law_545 dL_law_546 rfl dL_law_547 dL_law_548 ?_
  refine lw_arg C hL (k := 2) (by decide) hi hS hl dL_law_549 dL_law_550 dL_law_551 rfl dL_law_552 dL_law_553 ?_
  refine lw_call C [.inl (xs (i + 1)), .inl (xs (i + 2))] lkL_76 ckX6_derivationSize ca_0 rfl (Nat.le_of_ble_eq_true rfl) rfl (Nat.le_of_ble_eq_true rfl) hl.1 hP hS rfl dL_law_554 rfl (oc_dsize I1 I3) (fun r1 g1 H locs q1 hP hS => ?_)
  obtain ⟨e1, c1, f1⟩ := q1
  refine lv_aload_n hx hb dL_law_557 rfl (lv_at hl 2 rfl) ?_
  refine lw_arg C hL (k := 1) (by decide) hi hS hl dL_law_558 dL_law_559 dL_law_560 rfl dL_law_561 dL_law_562 ?_
  refine lw_arg C hL (k := 2) (by decide) hi hS hl dL_law_563 dL_law_564 dL_law_565 rfl dL_law_566 dL_law_567 ?_
  refine lw_call C [.inl (xs (i + 1)), .inl (xs (i + 2))] lkL_79 ckX7_derivationSize ca_26 rfl (Nat.le_of_ble_eq_true rfl) rfl (Nat.le_of_ble_eq_true rfl) hl.1 hP hS rfl dL_law_568 rfl (om_dsize (I2.ext f1) I3) (fun r2 g2 H locs q2 hP hS => ?_)
  obtain ⟨e2, c2, f2⟩ := q2
  refine lv_icmp_eq (tgt := 948) hx hb dL_law_571 (by decide) (fun _ => ?_) (fun z => absurd (e1.trans e2.symm) z)
  exact next _ g2 H locs ⟨c1.ext f2, c2, I3, hP, hS⟩
theorem lw_c16 (C : LwX Γ p s m meth c b L xs) (hL : L ≤ 2048) {i : Nat} (hi : i + 4 ≤ L) {a : Ab} (I : LwI Γ s a g H locs) (hl : lv_has ls 4 [(0, .ref b), (1, .ref (Γ.2.2.2.1 0)), (2, .ref (Γ.2.2.2.1 26)), (3, .int (nI i))]) (next : ∀ (a' : Ab) (g' : Mem) (H' : Heap) (locs' : List Loc), LwI Γ s a' g' H' locs' → W p Γ.1 e room_1 s m #[Value.ref b] below meth c H' locs' 104 2677 Q (F0 m 948 ls [])) : W p Γ.1 e room_1 s m #[Value.ref b] below meth c H locs 104 2677 Q (F0 m 576 ls []) := by
  obtain ⟨hx, hb, hrt, hml, hown, hts, hX, hbl, hlocks, hgv⟩ := C.1
  obtain ⟨I1, I2, I3, hP, hS⟩ := I
  refine lv_aload_n hx hb dL_law_576 rfl (lv_at hl 1 rfl) ?_
  refine lw_call C [] lkL_80 ckX6_lastRound ca_0 rfl (Nat.le_of_ble_eq_true rfl) rfl (Nat.le_of_ble_eq_true rfl) hl.1 hP hS rfl dL_law_577 rfl (oc_lastRound I1 I3) (fun r1 g1 H locs q1 hP hS => ?_)
  obtain ⟨e1, c1, f1⟩ := q1
  refine lv_aload_n hx hb dL_law_580 rfl (lv_at hl 2 rfl) ?_
  refine lw_call C [] lkL_83 ckX7_lastRound ca_26 rfl (Nat.le_of_ble_eq_true rfl) rfl (Nat.le_of_ble_eq_true rfl) hl.1 hP hS rfl dL_law_581 rfl (om_lastRound (I2.ext f1) I3) (fun r2 g2 H locs q2 hP hS => ?_)
  obtain ⟨e2, c2, f2⟩ := q2
  refine lv_icmp_eq (tgt := 948) hx hb dL_law_584 (by decide) (fun _ => ?_) (fun z => absurd (e1.trans e2.symm) z)
  exact next _ g2 H locs ⟨c1.ext f2, c2, I3, hP, hS⟩
theorem lw_c17 (C : LwX Γ p s m meth c b L xs) (hL : L ≤ 2048) {i : Nat} (hi : i + 4 ≤ L) {a : Ab} (I : LwI Γ s a g H locs) (hl : lv_has ls 4 [(0, .ref b), (1, .ref (Γ.2.2.2.1 0)), (2, .ref (Γ.2.2.2.1 26)), (3, .int (nI i))]) (next : ∀ (a' : Ab) (g' : Mem) (H' : Heap) (locs' : List Loc), LwI Γ s a' g' H' locs' → W p Γ.1 e room_1 s m #[Value.ref b] below meth c H' locs' 104 2677 Q (F0 m 948 ls [])) : W p Γ.1 e room_1 s m #[Value.ref b] below meth c H locs 104 2677 Q (F0 m 589 ls []) := by
  obtain ⟨hx, hb, hrt, hml, hown, hts, hX, hbl, hlocks, hgv⟩ := C.1
  obtain ⟨I1, I2, I3, hP, hS⟩ := I
  refine lv_aload_n hx hb dL_law_589 rfl (lv_at hl 1 rfl) ?_
  refine lw_arg C hL (k := 1) (by decide) hi hS hl dL_law_590 dL_law_591 dL_law_592 rfl dL_law_593 dL_law_594 ?_
  refine lw_arg C hL (k := 2) (by decide) hi hS hl dL_law_595 dL_law_596 dL_law_597 rfl dL_law_598 dL_law_599 ?_
  refine lw_call C [.inl (xs (i + 1)), .inl (xs (i + 2))] lkL_84 ckX6_coarselyMayHold ca_0 rfl (Nat.le_of_ble_eq_true rfl) rfl (Nat.le_of_ble_eq_true rfl) hl.1 hP hS rfl dL_law_600 rfl (oc_coarse I1 I3) (fun r1 g1 H locs q1 hP hS => ?_)
  obtain ⟨e1, c1, f1⟩ := q1
  refine lv_aload_n hx hb dL_law_603 rfl (lv_at hl 2 rfl) ?_
  refine lw_arg C hL (k := 1) (by decide) hi hS hl dL_law_604 dL_law_605 dL_law_606 rfl dL_law_607 dL_law_608 ?_
  refine lw_arg C hL (k := 2) (by decide) hi hS hl dL_law_609 dL_law_610 dL_law_611 rfl dL_law_612 dL_law_613 ?_
  refine lw_call C [.inl (xs (i + 1)), .inl (xs (i + 2))] lkL_87 ckX7_coarselyMayHold ca_26 rfl (Nat.le_of_ble_eq_true rfl) rfl (Nat.le_of_ble_eq_true rfl) hl.1 hP hS rfl dL_law_614 rfl (om_coarse (I2.ext f1) I3) (fun r2 g2 H locs q2 hP hS => ?_)
  obtain ⟨e2, c2, f2⟩ := q2
  refine lv_icmp_eq (tgt := 948) hx hb dL_law_617 (by decide) (fun _ => ?_) (fun z => absurd (e1.trans e2.symm) z)
  exact next _ g2 H locs ⟨c1.ext f2, c2, I3, hP, hS⟩
theorem lw_c18 (C : LwX Γ p s m meth c b L xs) (hL : L ≤ 2048) {i : Nat} (hi : i + 4 ≤ L) {a : Ab} (I : LwI Γ s a g H locs) (hl : lv_has ls 4 [(0, .ref b), (1, .ref (Γ.2.2.2.1 0)), (2, .ref (Γ.2.2.2.1 26)), (3, .int (nI i))]) (next : ∀ (a' : Ab) (g' : Mem) (H' : Heap) (locs' : List Loc), LwI Γ s a' g' H' locs' → W p Γ.1 e room_1 s m #[Value.ref b] below meth c H' locs' 104 2677 Q (F0 m 948 ls [])) : W p Γ.1 e room_1 s m #[Value.ref b] below meth c H locs 104 2677 Q (F0 m 622 ls []) := by
  obtain ⟨hx, hb, hrt, hml, hown, hts, hX, hbl, hlocks, hgv⟩ := C.1
  obtain ⟨I1, I2, I3, hP, hS⟩ := I
  refine lv_aload_n hx hb dL_law_622 rfl (lv_at hl 1 rfl) ?_
  refine lw_arg C hL (k := 1) (by decide) hi hS hl dL_law_623 dL_law_624 dL_law_625 rfl dL_law_626 dL_law_627 ?_
  refine lw_arg C hL (k := 2) (by decide) hi hS hl dL_law_628 dL_law_629 dL_law_630 rfl dL_law_631 dL_law_632 ?_
  refine lw_call C [.inl (xs (i + 1)), .inl (xs (i + 2))] lkL_88 ckX6_forbid ca_0 rfl (Nat.le_of_ble_eq_true rfl) rfl (Nat.le_of_ble_eq_true rfl) hl.1 hP hS rfl dL_law_633 rfl (oc_forbid I1 I3) (fun r1 g1 H locs q1 hP hS => ?_)
  obtain ⟨e1, c1, f1⟩ := q1
  refine lv_aload_n hx hb dL_law_636 rfl (lv_at hl 2 rfl) ?_
  refine lw_arg C hL (k := 1) (by decide) hi hS hl dL_law_637 dL_law_638 dL_law_639 rfl dL_law_640 dL_law_641 ?_
  refine lw_arg C hL (k := 2) (by decide) hi hS hl dL_law_642 dL_law_643 dL_law_644 rfl dL_law_645 dL_law_646 ?_
  refine lw_call C [.inl (xs (i + 1)), .inl (xs (i + 2))] lkL_91 ckX7_forbid ca_26 rfl (Nat.le_of_ble_eq_true rfl) rfl (Nat.le_of_ble_eq_true rfl) hl.1 hP hS rfl dL_law_647 rfl (om_forbid (I2.ext f1) I3) (fun r2 g2 H locs q2 hP hS => ?_)
  obtain ⟨e2, c2, f2⟩ := q2
  refine lv_icmp_eq (tgt := 948) hx hb dL_law_650 (by decide) (fun _ => ?_) (fun z => absurd (e1.trans e2.symm) z)
  exact next _ g2 H locs ⟨c1.ext f2, c2, (wa_forbid I3), hP, hS⟩
theorem lw_c19 (C : LwX Γ p s m meth c b L xs) (hL : L ≤ 2048) {i : Nat} (hi : i + 4 ≤ L) {a : Ab} (I : LwI Γ s a g H locs) (hl : lv_has ls 4 [(0, .ref b), (1, .ref (Γ.2.2.2.1 0)), (2, .ref (Γ.2.2.2.1 26)), (3, .int (nI i))]) (next : ∀ (a' : Ab) (g' : Mem) (H' : Heap) (locs' : List Loc), LwI Γ s a' g' H' locs' → W p Γ.1 e room_1 s m #[Value.ref b] below meth c H' locs' 104 2677 Q (F0 m 948 ls [])) : W p Γ.1 e room_1 s m #[Value.ref b] below meth c H locs 104 2677 Q (F0 m 655 ls []) := by
  obtain ⟨hx, hb, hrt, hml, hown, hts, hX, hbl, hlocks, hgv⟩ := C.1
  obtain ⟨I1, I2, I3, hP, hS⟩ := I
  refine lv_aload_n hx hb dL_law_655 rfl (lv_at hl 1 rfl) ?_
  refine lw_arg C hL (k := 1) (by decide) hi hS hl dL_law_656 dL_law_657 dL_law_658 rfl dL_law_659 dL_law_660 ?_
  refine lw_arg C hL (k := 2) (by decide) hi hS hl dL_law_661 dL_law_662 dL_law_663 rfl dL_law_664 dL_law_665 ?_
  refine lw_call C [.inl (xs (i + 1)), .inl (xs (i + 2))] lkL_92 ckX6_permit ca_0 rfl (Nat.le_of_ble_eq_true rfl) rfl (Nat.le_of_ble_eq_true rfl) hl.1 hP hS rfl dL_law_666 rfl (oc_permit I1 I3) (fun r1 g1 H locs q1 hP hS => ?_)
  obtain ⟨e1, c1, f1⟩ := q1
  refine lv_aload_n hx hb dL_law_669 rfl (lv_at hl 2 rfl) ?_
  refine lw_arg C hL (k := 1) (by decide) hi hS hl dL_law_670 dL_law_671 dL_law_672 rfl dL_law_673 dL_law_674 ?_
  refine lw_arg C hL (k := 2) (by decide) hi hS hl dL_law_675 dL_law_676 dL_law_677 rfl dL_law_678 dL_law_679 ?_
  refine lw_call C [.inl (xs (i + 1)), .inl (xs (i + 2))] lkL_95 ckX7_permit ca_26 rfl (Nat.le_of_ble_eq_true rfl) rfl (Nat.le_of_ble_eq_true rfl) hl.1 hP hS rfl dL_law_680 rfl (om_permit (I2.ext f1) I3) (fun r2 g2 H locs q2 hP hS => ?_)
  obtain ⟨e2, c2, f2⟩ := q2
  refine lv_icmp_eq (tgt := 948) hx hb dL_law_683 (by decide) (fun _ => ?_) (fun z => absurd (e1.trans e2.symm) z)
  exact next _ g2 H locs ⟨c1.ext f2, c2, (wa_permit I3), hP, hS⟩
theorem lw_c20 (C : LwX Γ p s m meth c b L xs) (hL : L ≤ 2048) {i : Nat} (hi : i + 4 ≤ L) {a : Ab} (I : LwI Γ s a g H locs) (hl : lv_has ls 4 [(0, .ref b), (1, .ref (Γ.2.2.2.1 0)), (2, .ref (Γ.2.2.2.1 26)), (3, .int (nI i))]) (next : ∀ (a' : Ab) (g' : Mem) (H' : Heap) (locs' : List Loc), LwI Γ s a' g' H' locs' → W p Γ.1 e room_1 s m #[Value.ref b] below meth c H' locs' 104 2677 Q (F0 m 948 ls [])) : W p Γ.1 e room_1 s m #[Value.ref b] below meth c H locs 104 2677 Q (F0 m 688 ls []) := by
  obtain ⟨hx, hb, hrt, hml, hown, hts, hX, hbl, hlocks, hgv⟩ := C.1
  obtain ⟨I1, I2, I3, hP, hS⟩ := I
  refine lv_aload_n hx hb dL_law_688 rfl (lv_at hl 1 rfl) ?_
  refine lw_call C [] lkL_96 ckX6_violationCount ca_0 rfl (Nat.le_of_ble_eq_true rfl) rfl (Nat.le_of_ble_eq_true rfl) hl.1 hP hS rfl dL_law_689 rfl (oc_violationCount I1 I3) (fun r1 g1 H locs q1 hP hS => ?_)
  obtain ⟨e1, c1, f1⟩ := q1
  refine lv_aload_n hx hb dL_law_692 rfl (lv_at hl 2 rfl) ?_
  refine lw_call C [] lkL_99 ckX7_violationCount ca_26 rfl (Nat.le_of_ble_eq_true rfl) rfl (Nat.le_of_ble_eq_true rfl) hl.1 hP hS rfl dL_law_693 rfl (om_violationCount (I2.ext f1) I3) (fun r2 g2 H locs q2 hP hS => ?_)
  obtain ⟨e2, c2, f2⟩ := q2
  refine lv_icmp_eq (tgt := 948) hx hb dL_law_696 (by decide) (fun _ => ?_) (fun z => absurd (e1.trans e2.symm) z)
  exact next _ g2 H locs ⟨c1.ext f2, c2, I3, hP, hS⟩
theorem lw_c21 (C : LwX Γ p s m meth c b L xs) (hL : L ≤ 2048) {i : Nat} (hi : i + 4 ≤ L) {a : Ab} (I : LwI Γ s a g H locs) (hl : lv_has ls 4 [(0, .ref b), (1, .ref (Γ.2.2.2.1 0)), (2, .ref (Γ.2.2.2.1 26)), (3, .int (nI i))]) (next : ∀ (a' : Ab) (g' : Mem) (H' : Heap) (locs' : List Loc), LwI Γ s a' g' H' locs' → W p Γ.1 e room_1 s m #[Value.ref b] below meth c H' locs' 104 2677 Q (F0 m 948 ls [])) : W p Γ.1 e room_1 s m #[Value.ref b] below meth c H locs 104 2677 Q (F0 m 701 ls []) := by
  obtain ⟨hx, hb, hrt, hml, hown, hts, hX, hbl, hlocks, hgv⟩ := C.1
  obtain ⟨I1, I2, I3, hP, hS⟩ := I
  refine lv_aload_n hx hb dL_law_701 rfl (lv_at hl 1 rfl) ?_
  refine lw_call C [] lkL_100 ckX6_smallestRepair ca_0 rfl (Nat.le_of_ble_eq_true rfl) rfl (Nat.le_of_ble_eq_true rfl) hl.1 hP hS rfl dL_law_702 rfl (oc_rep I1 I3) (fun r1 g1 H locs q1 hP hS => ?_)
  obtain ⟨e1, c1, f1⟩ := q1
  refine lv_aload_n hx hb dL_law_705 rfl (lv_at hl 2 rfl) ?_
  refine lw_call C [] lkL_103 ckX7_smallestRepair ca_26 rfl (Nat.le_of_ble_eq_true rfl) rfl (Nat.le_of_ble_eq_true rfl) hl.1 hP hS rfl dL_law_706 rfl (om_rep (I2.ext f1) I3) (fun r2 g2 H locs q2 hP hS => ?_)
  obtain ⟨e2, c2, f2⟩ := q2
  refine lv_icmp_eq (tgt := 948) hx hb dL_law_709 (by decide) (fun _ => ?_) (fun z => absurd (e1.trans e2.symm) z)
  exact next _ g2 H locs ⟨c1.ext f2, c2, I3, hP, hS⟩
theorem lw_c22 (C : LwX Γ p s m meth c b L xs) (hL : L ≤ 2048) {i : Nat} (hi : i + 4 ≤ L) {a : Ab} (I : LwI Γ s a g H locs) (hl : lv_has ls 4 [(0, .ref b), (1, .ref (Γ.2.2.2.1 0)), (2, .ref (Γ.2.2.2.1 26)), (3, .int (nI i))]) (next : ∀ (a' : Ab) (g' : Mem) (H' : Heap) (locs' : List Loc), LwI Γ s a' g' H' locs' → W p Γ.1 e room_1 s m #[Value.ref b] below meth c H' locs' 104 2677 Q (F0 m 948 ls [])) : W p Γ.1 e room_1 s m #[Value.ref b] below meth c H locs 104 2677 Q (F0 m 714 ls []) := by
  obtain ⟨hx, hb, hrt, hml, hown, hts, hX, hbl, hlocks, hgv⟩ := C.1
  obtain ⟨I1, I2, I3, hP, hS⟩ := I
  refine lv_aload_n hx hb dL_law_714 rfl (lv_at hl 1 rfl) ?_
  refine lw_arg C hL (k := 1) (by decide) hi hS hl dL_law_715 dL_law_716 dL_law_717 rfl dL_law_718 dL_law_719 ?_
  refine lw_arg C hL (k := 2) (by decide) hi hS hl dL_law_720 dL_law_721 dL_law_722 rfl dL_law_723 dL_law_724 ?_
  refine lw_arg C hL (k := 3) (by decide) hi hS hl dL_law_725 dL_law_726 dL_law_727 rfl dL_law_728 dL_law_729 ?_
  refine lw_call C [.inl (xs (i + 1)), .inl (xs (i + 2)), .inl (xs (i + 3))] lkL_104 ckX6_give ca_0 rfl (Nat.le_of_ble_eq_true rfl) rfl (Nat.le_of_ble_eq_true rfl) hl.1 hP hS rfl dL_law_730 rfl (oc_give I1 I3) (fun r1 g1 H locs q1 hP hS => ?_)
  obtain ⟨e1, c1, f1⟩ := q1
  refine lv_aload_n hx hb dL_law_733 rfl (lv_at hl 2 rfl) ?_
  refine lw_arg C hL (k := 1) (by decide) hi hS hl dL_law_734 dL_law_735 dL_law_736 rfl dL_law_737 dL_law_738 ?_
  refine lw_arg C hL (k := 2) (by decide) hi hS hl dL_law_739 dL_law_740 dL_law_741 rfl dL_law_742 dL_law_743 ?_
  refine lw_arg C hL (k := 3) (by decide) hi hS hl dL_law_744 dL_law_745 dL_law_746 rfl dL_law_747 dL_law_748 ?_
  refine lw_call C [.inl (xs (i + 1)), .inl (xs (i + 2)), .inl (xs (i + 3))] lkL_108 ckX7_give ca_26 rfl (Nat.le_of_ble_eq_true rfl) rfl (Nat.le_of_ble_eq_true rfl) hl.1 hP hS rfl dL_law_749 rfl (om_give (I2.ext f1) I3) (fun r2 g2 H locs q2 hP hS => ?_)
  obtain ⟨e2, c2, f2⟩ := q2
  refine lv_icmp_eq (tgt := 948) hx hb dL_law_752 (by decide) (fun _ => ?_) (fun z => absurd (e1.trans e2.symm) z)
  exact next _ g2 H locs ⟨c1.ext f2, c2, (wa_give I3), hP, hS⟩
theorem lw_c23 (C : LwX Γ p s m meth c b L xs) (hL : L ≤ 2048) {i : Nat} (hi : i + 4 ≤ L) {a : Ab} (I : LwI Γ s a g H locs) (hl : lv_has ls 4 [(0, .ref b), (1, .ref (Γ.2.2.2.1 0)), (2, .ref (Γ.2.2.2.1 26)), (3, .int (nI i))]) (next : ∀ (a' : Ab) (g' : Mem) (H' : Heap) (locs' : List Loc), LwI Γ s a' g' H' locs' → W p Γ.1 e room_1 s m #[Value.ref b] below meth c H' locs' 104 2677 Q (F0 m 948 ls [])) : W p Γ.1 e room_1 s m #[Value.ref b] below meth c H locs 104 2677 Q (F0 m 757 ls []) := by
  obtain ⟨hx, hb, hrt, hml, hown, hts, hX, hbl, hlocks, hgv⟩ := C.1
  obtain ⟨I1, I2, I3, hP, hS⟩ := I
  refine lv_aload_n hx hb dL_law_757 rfl (lv_at hl 1 rfl) ?_
  refine lw_arg C hL (k := 1) (by decide) hi hS hl dL_law_758 dL_law_759 dL_law_760 rfl dL_law_761 dL_law_762 ?_
  refine lw_arg C hL (k := 2) (by decide) hi hS hl dL_law_763 dL_law_764 dL_law_765 rfl dL_law_766 dL_law_767 ?_
  refine lw_arg C hL (k := 3) (by decide) hi hS hl dL_law_768 dL_law_769 dL_law_770 rfl dL_law_771 dL_law_772 ?_
  refine lw_call C [.inl (xs (i + 1)), .inl (xs (i + 2)), .inl (xs (i + 3))] lkL_109 ckX6_take ca_0 rfl (Nat.le_of_ble_eq_true rfl) rfl (Nat.le_of_ble_eq_true rfl) hl.1 hP hS rfl dL_law_773 rfl (oc_take I1 I3) (fun r1 g1 H locs q1 hP hS => ?_)
  obtain ⟨e1, c1, f1⟩ := q1
  refine lv_aload_n hx hb dL_law_776 rfl (lv_at hl 2 rfl) ?_
  refine lw_arg C hL (k := 1) (by decide) hi hS hl dL_law_777 dL_law_778 dL_law_779 rfl dL_law_780 dL_law_781 ?_
  refine lw_arg C hL (k := 2) (by decide) hi hS hl dL_law_782 dL_law_783 dL_law_784 rfl dL_law_785 dL_law_786 ?_
  refine lw_arg C hL (k := 3) (by decide) hi hS hl dL_law_787 dL_law_788 dL_law_789 rfl dL_law_790 dL_law_791 ?_
  refine lw_call C [.inl (xs (i + 1)), .inl (xs (i + 2)), .inl (xs (i + 3))] lkL_112 ckX7_take_ ca_26 rfl (Nat.le_of_ble_eq_true rfl) rfl (Nat.le_of_ble_eq_true rfl) hl.1 hP hS rfl dL_law_792 rfl (om_take (I2.ext f1) I3) (fun r2 g2 H locs q2 hP hS => ?_)
  obtain ⟨e2, c2, f2⟩ := q2
  refine lv_icmp_eq (tgt := 948) hx hb dL_law_795 (by decide) (fun _ => ?_) (fun z => absurd (e1.trans e2.symm) z)
  exact next _ g2 H locs ⟨c1.ext f2, c2, (wa_take I3), hP, hS⟩
theorem lw_c24 (C : LwX Γ p s m meth c b L xs) (hL : L ≤ 2048) {i : Nat} (hi : i + 4 ≤ L) {a : Ab} (I : LwI Γ s a g H locs) (hl : lv_has ls 4 [(0, .ref b), (1, .ref (Γ.2.2.2.1 0)), (2, .ref (Γ.2.2.2.1 26)), (3, .int (nI i))]) (next : ∀ (a' : Ab) (g' : Mem) (H' : Heap) (locs' : List Loc), LwI Γ s a' g' H' locs' → W p Γ.1 e room_1 s m #[Value.ref b] below meth c H' locs' 104 2677 Q (F0 m 948 ls [])) : W p Γ.1 e room_1 s m #[Value.ref b] below meth c H locs 104 2677 Q (F0 m 800 ls []) := by
  obtain ⟨hx, hb, hrt, hml, hown, hts, hX, hbl, hlocks, hgv⟩ := C.1
  obtain ⟨I1, I2, I3, hP, hS⟩ := I
  refine lv_aload_n hx hb dL_law_800 rfl (lv_at hl 1 rfl) ?_
  refine lw_arg C hL (k := 1) (by decide) hi hS hl dL_law_801 dL_law_802 dL_law_803 rfl dL_law_804 dL_law_805 ?_
  refine lw_arg C hL (k := 2) (by decide) hi hS hl dL_law_806 dL_law_807 dL_law_808 rfl dL_law_809 dL_law_810 ?_
  refine lw_arg C hL (k := 3) (by decide) hi hS hl dL_law_811 dL_law_812 dL_law_813 rfl dL_law_814 dL_law_815 ?_
  refine lw_call C [.inl (xs (i + 1)), .inl (xs (i + 2)), .inl (xs (i + 3))] lkL_113 ckX6_open ca_0 rfl (Nat.le_of_ble_eq_true rfl) rfl (Nat.le_of_ble_eq_true rfl) hl.1 hP hS rfl dL_law_816 rfl (oc_open I1 I3) (fun r1 g1 H locs q1 hP hS => ?_)
  obtain ⟨e1, c1, f1⟩ := q1
  refine lv_aload_n hx hb dL_law_819 rfl (lv_at hl 2 rfl) ?_
  refine lw_arg C hL (k := 1) (by decide) hi hS hl dL_law_820 dL_law_821 dL_law_822 rfl dL_law_823 dL_law_824 ?_
  refine lw_arg C hL (k := 2) (by decide) hi hS hl dL_law_825 dL_law_826 dL_law_827 rfl dL_law_828 dL_law_829 ?_
  refine lw_arg C hL (k := 3) (by decide) hi hS hl dL_law_830 dL_law_831 dL_law_832 rfl dL_law_833 dL_law_834 ?_
  refine lw_call C [.inl (xs (i + 1)), .inl (xs (i + 2)), .inl (xs (i + 3))] lkL_116 ckX7_open ca_26 rfl (Nat.le_of_ble_eq_true rfl) rfl (Nat.le_of_ble_eq_true rfl) hl.1 hP hS rfl dL_law_835 rfl (om_open (I2.ext f1) I3) (fun r2 g2 H locs q2 hP hS => ?_)
  obtain ⟨e2, c2, f2⟩ := q2
  refine lv_icmp_eq (tgt := 948) hx hb dL_law_838 (by decide) (fun _ => ?_) (fun z => absurd (e1.trans e2.symm) z)
  exact next _ g2 H locs ⟨c1.ext f2, c2, (wa_open I3), hP, hS⟩
theorem lw_c25 (C : LwX Γ p s m meth c b L xs) (hL : L ≤ 2048) {i : Nat} (hi : i + 4 ≤ L) {a : Ab} (I : LwI Γ s a g H locs) (hl : lv_has ls 4 [(0, .ref b), (1, .ref (Γ.2.2.2.1 0)), (2, .ref (Γ.2.2.2.1 26)), (3, .int (nI i))]) (next : ∀ (a' : Ab) (g' : Mem) (H' : Heap) (locs' : List Loc), LwI Γ s a' g' H' locs' → W p Γ.1 e room_1 s m #[Value.ref b] below meth c H' locs' 104 2677 Q (F0 m 948 ls [])) : W p Γ.1 e room_1 s m #[Value.ref b] below meth c H locs 104 2677 Q (F0 m 843 ls []) := by
  obtain ⟨hx, hb, hrt, hml, hown, hts, hX, hbl, hlocks, hgv⟩ := C.1
  obtain ⟨I1, I2, I3, hP, hS⟩ := I
  refine lv_aload_n hx hb dL_law_843 rfl (lv_at hl 1 rfl) ?_
  refine lw_arg C hL (k := 1) (by decide) hi hS hl dL_law_844 dL_law_845 dL_law_846 rfl dL_law_847 dL_law_848 ?_
  refine lw_arg C hL (k := 2) (by decide) hi hS hl dL_law_849 dL_law_850 dL_law_851 rfl dL_law_852 dL_law_853 ?_
  refine lw_call C [.inl (xs (i + 1)), .inl (xs (i + 2))] lkL_117 ckX6_create ca_0 rfl (Nat.le_of_ble_eq_true rfl) rfl (Nat.le_of_ble_eq_true rfl) hl.1 hP hS rfl dL_law_854 rfl (oc_create I1 I3) (fun r1 g1 H locs q1 hP hS => ?_)
  obtain ⟨e1, c1, f1⟩ := q1
  refine lv_aload_n hx hb dL_law_857 rfl (lv_at hl 2 rfl) ?_
  refine lw_arg C hL (k := 1) (by decide) hi hS hl dL_law_858 dL_law_859 dL_law_860 rfl dL_law_861 dL_law_862 ?_
  refine lw_arg C hL (k := 2) (by decide) hi hS hl dL_law_863 dL_law_864 dL_law_865 rfl dL_law_866 dL_law_867 ?_
  refine lw_call C [.inl (xs (i + 1)), .inl (xs (i + 2))] lkL_120 ckX7_create ca_26 rfl (Nat.le_of_ble_eq_true rfl) rfl (Nat.le_of_ble_eq_true rfl) hl.1 hP hS rfl dL_law_868 rfl (om_create (I2.ext f1) I3) (fun r2 g2 H locs q2 hP hS => ?_)
  obtain ⟨e2, c2, f2⟩ := q2
  refine lv_icmp_eq (tgt := 948) hx hb dL_law_871 (by decide) (fun _ => ?_) (fun z => absurd (e1.trans e2.symm) z)
  exact next _ g2 H locs ⟨c1.ext f2, c2, (wa_create I3), hP, hS⟩
theorem lw_c26 (C : LwX Γ p s m meth c b L xs) (hL : L ≤ 2048) {i : Nat} (hi : i + 4 ≤ L) {a : Ab} (I : LwI Γ s a g H locs) (hl : lv_has ls 4 [(0, .ref b), (1, .ref (Γ.2.2.2.1 0)), (2, .ref (Γ.2.2.2.1 26)), (3, .int (nI i))]) (next : ∀ (a' : Ab) (g' : Mem) (H' : Heap) (locs' : List Loc), LwI Γ s a' g' H' locs' → W p Γ.1 e room_1 s m #[Value.ref b] below meth c H' locs' 104 2677 Q (F0 m 948 ls [])) : W p Γ.1 e room_1 s m #[Value.ref b] below meth c H locs 104 2677 Q (F0 m 876 ls []) := by
  obtain ⟨hx, hb, hrt, hml, hown, hts, hX, hbl, hlocks, hgv⟩ := C.1
  obtain ⟨I1, I2, I3, hP, hS⟩ := I
  refine lv_aload_n hx hb dL_law_876 rfl (lv_at hl 1 rfl) ?_
  refine lw_call C [] lkL_121 ckX6_restartRun ca_0 rfl (Nat.le_of_ble_eq_true rfl) rfl (Nat.le_of_ble_eq_true rfl) hl.1 hP hS rfl dL_law_877 rfl (oc_restart I1 I3) (fun r1 g1 H locs q1 hP hS => ?_)
  obtain ⟨e1, c1, f1⟩ := q1
  refine lv_aload_n hx hb dL_law_880 rfl (lv_at hl 2 rfl) ?_
  refine lw_call C [] lkL_124 ckX7_restartRun ca_26 rfl (Nat.le_of_ble_eq_true rfl) rfl (Nat.le_of_ble_eq_true rfl) hl.1 hP hS rfl dL_law_881 rfl (om_restart (I2.ext f1) I3) (fun r2 g2 H locs q2 hP hS => ?_)
  obtain ⟨e2, c2, f2⟩ := q2
  refine lv_icmp_eq (tgt := 948) hx hb dL_law_884 (by decide) (fun _ => ?_) (fun z => absurd (e1.trans e2.symm) z)
  exact next _ g2 H locs ⟨c1.ext f2, c2, (wa_restart I3), hP, hS⟩
theorem lw_c27 (C : LwX Γ p s m meth c b L xs) (hL : L ≤ 2048) {i : Nat} (hi : i + 4 ≤ L) {a : Ab} (I : LwI Γ s a g H locs) (hl : lv_has ls 4 [(0, .ref b), (1, .ref (Γ.2.2.2.1 0)), (2, .ref (Γ.2.2.2.1 26)), (3, .int (nI i))]) (next : ∀ (a' : Ab) (g' : Mem) (H' : Heap) (locs' : List Loc), LwI Γ s a' g' H' locs' → W p Γ.1 e room_1 s m #[Value.ref b] below meth c H' locs' 104 2677 Q (F0 m 948 ls [])) : W p Γ.1 e room_1 s m #[Value.ref b] below meth c H locs 104 2677 Q (F0 m 889 ls []) := by
  obtain ⟨hx, hb, hrt, hml, hown, hts, hX, hbl, hlocks, hgv⟩ := C.1
  obtain ⟨I1, I2, I3, hP, hS⟩ := I
  refine lv_aload_n hx hb dL_law_889 rfl (lv_at hl 1 rfl) ?_
  refine lw_arg C hL (k := 1) (by decide) hi hS hl dL_law_890 dL_law_891 dL_law_892 rfl dL_law_893 dL_law_894 ?_
  refine lw_arg C hL (k := 2) (by decide) hi hS hl dL_law_895 dL_law_896 dL_law_897 rfl dL_law_898 dL_law_899 ?_
  refine lw_call C [.inl (xs (i + 1)), .inl (xs (i + 2))] lkL_125 ckX6_holdsInRun ca_0 rfl (Nat.le_of_ble_eq_true rfl) rfl (Nat.le_of_ble_eq_true rfl) hl.1 hP hS rfl dL_law_900 rfl (oc_holdsInRun I1 I3) (fun r1 g1 H locs q1 hP hS => ?_)
  obtain ⟨e1, c1, f1⟩ := q1
  refine lv_aload_n hx hb dL_law_903 rfl (lv_at hl 2 rfl) ?_
  refine lw_arg C hL (k := 1) (by decide) hi hS hl dL_law_904 dL_law_905 dL_law_906 rfl dL_law_907 dL_law_908 ?_
  refine lw_arg C hL (k := 2) (by decide) hi hS hl dL_law_909 dL_law_910 dL_law_911 rfl dL_law_912 dL_law_913 ?_
  refine lw_call C [.inl (xs (i + 1)), .inl (xs (i + 2))] lkL_128 ckX7_holdsInRun ca_26 rfl (Nat.le_of_ble_eq_true rfl) rfl (Nat.le_of_ble_eq_true rfl) hl.1 hP hS rfl dL_law_914 rfl (om_holdsInRun (I2.ext f1) I3) (fun r2 g2 H locs q2 hP hS => ?_)
  obtain ⟨e2, c2, f2⟩ := q2
  refine lv_icmp_eq (tgt := 948) hx hb dL_law_917 (by decide) (fun _ => ?_) (fun z => absurd (e1.trans e2.symm) z)
  exact next _ g2 H locs ⟨c1.ext f2, c2, I3, hP, hS⟩
theorem lw_c28 (C : LwX Γ p s m meth c b L xs) (hL : L ≤ 2048) {i : Nat} (hi : i + 4 ≤ L) {a : Ab} (I : LwI Γ s a g H locs) (hl : lv_has ls 4 [(0, .ref b), (1, .ref (Γ.2.2.2.1 0)), (2, .ref (Γ.2.2.2.1 26)), (3, .int (nI i))]) (next : ∀ (a' : Ab) (g' : Mem) (H' : Heap) (locs' : List Loc), LwI Γ s a' g' H' locs' → W p Γ.1 e room_1 s m #[Value.ref b] below meth c H' locs' 104 2677 Q (F0 m 948 ls [])) : W p Γ.1 e room_1 s m #[Value.ref b] below meth c H locs 104 2677 Q (F0 m 922 ls []) := by
  obtain ⟨hx, hb, hrt, hml, hown, hts, hX, hbl, hlocks, hgv⟩ := C.1
  obtain ⟨I1, I2, I3, hP, hS⟩ := I
  refine lv_aload_n hx hb dL_law_922 rfl (lv_at hl 1 rfl) ?_
  refine lw_call C [] lkL_129 ckX6_undo ca_0 rfl (Nat.le_of_ble_eq_true rfl) rfl (Nat.le_of_ble_eq_true rfl) hl.1 hP hS rfl dL_law_923 rfl (oc_undo I1 I3) (fun r1 g1 H locs q1 hP hS => ?_)
  obtain ⟨e1, c1, f1⟩ := q1
  refine lv_aload_n hx hb dL_law_926 rfl (lv_at hl 2 rfl) ?_
  refine lw_call C [] lkL_132 ckX7_undo ca_26 rfl (Nat.le_of_ble_eq_true rfl) rfl (Nat.le_of_ble_eq_true rfl) hl.1 hP hS rfl dL_law_927 rfl (om_undo (I2.ext f1)) (fun r2 g2 H locs q2 hP hS => ?_)
  obtain ⟨e2, c2, f2⟩ := q2
  refine lv_icmp_eq (tgt := 948) hx hb dL_law_930 (by decide) (fun _ => ?_) (fun z => absurd (e1.trans e2.symm) z)
  exact next _ g2 H locs ⟨c1.ext f2, c2, (wa_undo I3), hP, hS⟩
theorem lw_c29 (C : LwX Γ p s m meth c b L xs) (hL : L ≤ 2048) {i : Nat} (hi : i + 4 ≤ L) {a : Ab} (I : LwI Γ s a g H locs) (hl : lv_has ls 4 [(0, .ref b), (1, .ref (Γ.2.2.2.1 0)), (2, .ref (Γ.2.2.2.1 26)), (3, .int (nI i))]) (next : ∀ (a' : Ab) (g' : Mem) (H' : Heap) (locs' : List Loc), LwI Γ s a' g' H' locs' → W p Γ.1 e room_1 s m #[Value.ref b] below meth c H' locs' 104 2677 Q (F0 m 948 ls [])) : W p Γ.1 e room_1 s m #[Value.ref b] below meth c H locs 104 2677 Q (F0 m 935 ls []) := by
  obtain ⟨hx, hb, hrt, hml, hown, hts, hX, hbl, hlocks, hgv⟩ := C.1
  obtain ⟨I1, I2, I3, hP, hS⟩ := I
  refine lv_aload_n hx hb dL_law_935 rfl (lv_at hl 1 rfl) ?_
  refine lw_call C [] lkL_133 ckX6_undoDepth ca_0 rfl (Nat.le_of_ble_eq_true rfl) rfl (Nat.le_of_ble_eq_true rfl) hl.1 hP hS rfl dL_law_936 rfl (oc_undoDepth I1) (fun r1 g1 H locs q1 hP hS => ?_)
  obtain ⟨e1, c1, f1⟩ := q1
  refine lv_aload_n hx hb dL_law_939 rfl (lv_at hl 2 rfl) ?_
  refine lw_call C [] lkL_136 ckX7_undoDepth ca_26 rfl (Nat.le_of_ble_eq_true rfl) rfl (Nat.le_of_ble_eq_true rfl) hl.1 hP hS rfl dL_law_940 rfl (om_undoDepth (I2.ext f1)) (fun r2 g2 H locs q2 hP hS => ?_)
  obtain ⟨e2, c2, f2⟩ := q2
  refine lv_icmp_eq (tgt := 948) hx hb dL_law_943 (by decide) (fun _ => ?_) (fun z => absurd (e1.trans e2.symm) z)
  exact next _ g2 H locs ⟨c1.ext f2, c2, I3, hP, hS⟩
end LWC
