/-! Strings: rows for their fields and bytes; the JDK's length and charAt; the class's tokenIs and findStatement. -/
def wls : List (List Nat) := [[97, 103, 101, 110, 116], [98, 111, 120], [107, 101, 121], [102, 97, 99, 116, 111, 114, 121], [104, 111, 108, 100]]
section AWS
variable {Γ : Gam} {D d : Nat} {I J : Mi} {P : Int32 → Mem → Prop} {pc : Nat} {ls : List (Option AV)} {st stk : List AV} {g : Mem} {y : MethodName} {idx : Nat}
theorem aw_sval {i : Nat} (hi : i < 5) (hl : Cond.fieldLink I.2.1 idx "java/lang/String" "value" "[B" ∈ GW) (hd : decode I.1 pc = .ok (.getfield idx, 3)) (K : AW Γ D I P (pc + 3) ls (.inr (300 + i) :: st) g) : AW Γ D I P pc ls (.inr (200 + i) :: st) g := by
  intro p e s m args below meth c hO H locs lsA hP hS hL
  have hs := hO.2.2.2.2.2.2.2.2.2.1
  have h0 := K p e s m args below meth c hO H locs lsA hP hS hL
  have e1 : avV Γ.2.2.2.1 (.inr (300 + i)) = .ref (Γ.2.2.2.2.2.2 i) := by show Value.ref _ = _; rw [hs.2.2.2.2.2 i hi]
  have e2 : avV Γ.2.2.2.1 (.inr (200 + i)) = .ref (Γ.2.2.2.2.2.1 i) := by show Value.ref _ = _; rw [hs.2.2.2.2.1 i hi]
  rw [List.map_cons, e1] at h0
  rw [List.map_cons, e2]
  exact vk_getf hO.1 hO.2.1 (hs.1.1 i hi).2.2.1 hS hO.2.2.2.2.1 (hO.2.2.2.2.2.1 _ hl) (fun x h => h) hd h0
theorem aw_scod {i : Nat} (hi : i < 5) (hl : Cond.fieldLink I.2.1 idx "java/lang/String" "coder" "B" ∈ GW) (hd : decode I.1 pc = .ok (.getfield idx, 3)) (K : AW Γ D I P (pc + 3) ls (.inl 0 :: st) g) : AW Γ D I P pc ls (.inr (200 + i) :: st) g := by
  intro p e s m args below meth c hO H locs lsA hP hS hL
  have hs := hO.2.2.2.2.2.2.2.2.2.1
  have h0 := K p e s m args below meth c hO H locs lsA hP hS hL
  have e2 : avV Γ.2.2.2.1 (.inr (200 + i)) = .ref (Γ.2.2.2.2.2.1 i) := by show Value.ref _ = _; rw [hs.2.2.2.2.1 i hi]
  rw [List.map_cons, e2]
  exact vk_getf hO.1 hO.2.1 (hs.1.1 i hi).2.1 hS hO.2.2.2.2.1 (hO.2.2.2.2.2.1 _ hl) (fun x h => h) hd h0
theorem aw_blen {i : Nat} (hi : i < 5) (hd : decode I.1 pc = .ok (.arraylength, 1)) (K : AW Γ D I P (pc + 1) ls (.inl (nI (sLen.getD i 0)) :: st) g) : AW Γ D I P pc ls (.inr (300 + i) :: st) g := by
  intro p e s m args below meth c hO H locs lsA hP hS hL
  have hs := hO.2.2.2.2.2.2.2.2.2.1
  have h0 := K p e s m args below meth c hO H locs lsA hP hS hL
  have e1 : avV Γ.2.2.2.1 (.inr (300 + i)) = .ref (Γ.2.2.2.2.2.2 i) := by show Value.ref _ = _; rw [hs.2.2.2.2.2 i hi]
  rw [List.map_cons, e1]
  exact va_tlen hO.1 hO.2.1 (hs.1.1 i hi).2.2.2 hS rfl hd h0
theorem aw_bald {i : Nat} {x : Int32} (hi : i < 5) (hd : decode I.1 pc = .ok (.baload, 1)) (hin : vp_in x (sLen.getD i 0)) (K : AW Γ D I P (pc + 1) ls (.inl ((sByt.getD i []).getD x.toNatClampNeg 0) :: st) g) : AW Γ D I P pc ls (.inl x :: .inr (300 + i) :: st) g := by
  intro p e s m args below meth c hO H locs lsA hP hS hL
  have hs := hO.2.2.2.2.2.2.2.2.2.1
  have h0 := K p e s m args below meth c hO H locs lsA hP hS hL
  have e1 : avV Γ.2.2.2.1 (.inr (300 + i)) = .ref (Γ.2.2.2.2.2.2 i) := by show Value.ref _ = _; rw [hs.2.2.2.2.2 i hi]
  rw [List.map_cons, List.map_cons, e1]
  exact va_tb hO.1 hO.2.1 (hs.1.1 i hi).2.2.2 hS hin rfl hd h0
theorem aw_gcs (hl : Cond.fieldLink I.2.1 idx "java/lang/String" "COMPACT_STRINGS" "Z" ∈ GW) (hd : decode I.1 pc = .ok (.getstatic idx, 3)) (K : AW Γ D I P (pc + 3) ls (.inl 1 :: st) g) : AW Γ D I P pc ls st g := by
  intro p e s m args below meth c hO H locs lsA hP hS hL
  have hs := hO.2.2.2.2.2.2.2.2.2.1
  exact va_gets hO.1 hO.2.1 hs.2.2.1 hS hO.2.2.2.2.1 (hO.2.2.2.2.2.1 _ hl) (fun x h => h) hd (K p e s m args below meth c hO H locs lsA hP hS hL)
theorem aw_i2c {x : Int32} (hd : decode I.1 pc = .ok (.i2c, 1)) (K : AW Γ D I P (pc + 1) ls (.inl ((x.toUInt32 % 65536).toInt32) :: st) g) : AW Γ D I P pc ls (.inl x :: st) g := by
  intro p e s m args below meth c hO H locs lsA hP hS hL
  exact lv_i2c hO.1 hO.2.1 hd rfl (K p e s m args below meth c hO H locs lsA hP hS hL)
theorem aw_callSt {n i : Nat} (hl : Cond.methodLink I.2.1 idx y ∈ GW) (hM : CkM RJ0 y J n) (hi : i < 5) (hdp : d + 1 ≤ D) (as : List AV) (hn : as.length = n) (hst : stk = as.reverse ++ (.inr (200 + i) :: st)) (hs8 : st.length ≤ 8) (hd : decode I.1 pc = .ok (.invokevirtual idx, 3)) {ty : FieldType} (hr : J.2.2.2 = some ty) (R : Runs Γ d y J (.inr (200 + i) :: as) g (fun r g' => AW Γ D I P (pc + 3) ls (.inl r :: st) g')) : AW Γ D I P pc ls stk g := by
  intro p e s m args below meth c hO H locs lsA hP hS hL
  subst hst
  have hw := hM.1
  have hcode : Cond.code y J.1 J.2.2.1 J.2.2.2 ∈ GW := hw _ (by simp)
  have ht := hO.2.2.2.2.2.1
  have hs := hO.2.2.2.2.2.2.2.2.2.1
  have hcw := cwV (R := rmD D) (s := s) (args := args) (own := I.2.1) (index := idx) (C := RJ0) (y := y) (rm := rmD d) (mc := 0) (ms := 0) n ht (gApp (fun w h => by
      simp only [List.mem_cons, List.not_mem_nil, or_false] at h
      rcases h with rfl | rfl | rfl | rfl
      · exact hl
      · exact hw _ (by simp)
      · exact hw _ (by simp)
      · exact hw _ (by simp)) (gIn hcode)) rfl rfl rfl hM.2.1 (rm_ok hdp hM.2.2)
  have hrv : ∃ cell : Cell, H[Γ.2.2.2.1 (200 + i)]? = some cell ∧ cell.vm.isStatics = false ∧ s.vm.findClass RJ0 = some cell.cls := by
    rw [hs.2.2.2.2.1 i hi]
    exact vk_recv hs.1 hi hS
  unfold Runs QcG at R
  rw [hr] at R
  have hrun := va_runV (e := e) (below := below) (meth := meth) (H := H) (locs := locs) (cells := 0) (slots := 0) (g := F0 m pc lsA ((as.reverse ++ (.inr (200 + i) :: st)).map (avV Γ.2.2.2.1))) (As := as.map (avV Γ.2.2.2.1)) (rest := st.map (avV Γ.2.2.2.1)) ⟨hO.1, hO.2.1, hO.2.2.2.1, hO.2.2.2.2.1, ht⟩ R hcw ⟨PcG.blind, hrv, pre_ok hO hP hS (.inr (200 + i) :: as)⟩ rfl (by rw [List.length_map]; exact hn) hL.1 (by rw [mapRev]; rfl) (lv_room (by rw [cat_sum]; exact hs8)) hd ⟨Nat.le_refl _, Nat.le_refl _⟩
  refine va_calli hrun hS (fun q _ h => h) (fun q h => h) (fun r u t H1 locs1 ht1 hvm hw1 hB hz hk1 hS1 => ?_)
  have hB2 : va_P (dd Γ) vwCl (wd Γ u) t.heap := hB
  rw [ht1] at hB2
  exact hw1 p e s m args below meth c hO H1 locs1 lsA hB2 hS1 hL
/-- a switch of five cases from 0 on -/
theorem aw_tsw {d0 o0 o1 o2 o3 o4 : Int} {len : Nat} {x : Int32} (t0 t1 t2 t3 t4 td : Nat) (hd : decode I.1 pc = .ok (.tableswitch d0 0 4 #[o0, o1, o2, o3, o4], len)) (h0 : (pc : Int) + o0 = (t0 : Int)) (h1 : (pc : Int) + o1 = (t1 : Int)) (h2 : (pc : Int) + o2 = (t2 : Int)) (h3 : (pc : Int) + o3 = (t3 : Int)) (h4 : (pc : Int) + o4 = (t4 : Int)) (h5 : (pc : Int) + d0 = (td : Int))
    (k0 : x = 0 → AW Γ D I P t0 ls st g) (k1 : x = 1 → AW Γ D I P t1 ls st g) (k2 : x = 2 → AW Γ D I P t2 ls st g) (k3 : x = 3 → AW Γ D I P t3 ls st g) (k4 : x = 4 → AW Γ D I P t4 ls st g) (kd : (¬ x = 0 ∧ ¬ x = 1 ∧ ¬ x = 2 ∧ ¬ x = 3 ∧ ¬ x = 4) → AW Γ D I P td ls st g) : AW Γ D I P pc ls (.inl x :: st) g := by
  by_cases e0 : x = 0
  · subst e0; exact aw_tIn t0 hd (by decide) (by decide) rfl h0 (k0 rfl)
  · by_cases e1 : x = 1
    · subst e1; exact aw_tIn t1 hd (by decide) (by decide) rfl h1 (k1 rfl)
    · by_cases e2 : x = 2
      · subst e2; exact aw_tIn t2 hd (by decide) (by decide) rfl h2 (k2 rfl)
      · by_cases e3 : x = 3
        · subst e3; exact aw_tIn t3 hd (by decide) (by decide) rfl h3 (k3 rfl)
        · by_cases e4 : x = 4
          · subst e4; exact aw_tIn t4 hd (by decide) (by decide) rfl h4 (k4 rfl)
          · refine aw_tOut td hd ?_ h5 (kd ⟨e0, e1, e2, e3, e4⟩)
            rw [eq_iff32, show (0 : Int32).toInt = 0 from rfl] at e0
            rw [eq_iff32, show (1 : Int32).toInt = 1 from rfl] at e1
            rw [eq_iff32, show (2 : Int32).toInt = 2 from rfl] at e2
            rw [eq_iff32, show (3 : Int32).toInt = 3 from rfl] at e3
            rw [eq_iff32, show (4 : Int32).toInt = 4 from rfl] at e4
            omega
end AWS
theorem fkJ0_38 : Cond.fieldLink RJ0 38 "java/lang/String" "COMPACT_STRINGS" "Z" ∈ GW := gw_of 391 (by decide +kernel) (by decide +kernel)
theorem fkJ0_9 : Cond.fieldLink RJ0 9 "java/lang/String" "value" "[B" ∈ GW := gw_of 1139 (by decide +kernel) (by decide +kernel)
theorem fkJ0_15 : Cond.fieldLink RJ0 15 "java/lang/String" "coder" "B" ∈ GW := gw_of 1140 (by decide +kernel) (by decide +kernel)
theorem fkJ0_1053 : Cond.fieldLink RJ0 1053 "jdk/internal/util/Preconditions" "SIOOBE_FORMATTER" "Ljava/util/function/BiFunction;" ∈ GW := gw_of 407 (by decide +kernel) (by decide +kernel)
theorem ct_J3_check {Γ : Gam} {i n : Int32} {g : Mem} (v : Value) (hv : v = .null ∨ ∃ t, v = .ref t) (h0 : ¬ i < 0) (h1 : i < n) : Met Γ.1 yJ3_checkIndex_8e157 (wsG yJ3_checkIndex_8e157 iJ3_checkIndex_8e157) (rmD 1) (va_Pc [.int i, .int n, v] (fun U => va_P (dd Γ) vwCl (wd Γ g) U.heap ∧ Tb Γ U U.heap)) (va_Qi (fun r g' => r = i ∧ g' = g) (BG Γ) (fr Γ)) 0 0 (fr Γ) := by
  have K : AW Γ 1 iJ3_checkIndex_8e157 (fun r g' => r = i ∧ g' = g) 0 [some (.inl i), some (.inl n)] [] g :=
    aw_iload_n dJ3_checkIndex_8e157_0 rfl (aw_if_lt 9 dJ3_checkIndex_8e157_1 (by decide) (fun c => absurd c h0) (fun _ => aw_iload_n dJ3_checkIndex_8e157_4 rfl (aw_iload_n dJ3_checkIndex_8e157_5 rfl (aw_icmp_lt 16 dJ3_checkIndex_8e157_6 (by decide) (fun _ => aw_iload_n dJ3_checkIndex_8e157_16 rfl (aw_iret rfl (vp_nar_int _) dJ3_checkIndex_8e157_17 ⟨rfl, rfl⟩)) (fun c => absurd h1 c)))))
  refine Met.ofW (cc := cJ3_checkIndex_8e157) (maxL := 3) (ret := some .int) (by decide) rfl ?_
  intro p e s m args below meth c s₁ B hml hq
  obtain ⟨rfl, hP, hT⟩ := hq
  have hts := atoms_spec (ws := wsG yJ3_checkIndex_8e157 iJ3_checkIndex_8e157) B.pre
  have hown : s.vm.findClass yJ3_checkIndex_8e157.cls = some m.cls := findClass_of_methodNamed B.named
  have hlen : (lg_sl [Value.int i, .int n, v]).length ≤ 3 := by
    rcases hv with rfl | ⟨t, rfl⟩ <;> exact Nat.le_of_ble_eq_true rfl
  have hl := lv_entry [Value.int i, .int n, v] (n := 3) hlen
  rw [lg_entry_eq]
  refine K p e s m _ below meth c ⟨B.exec, B.bytes, B.returns, hml, hown, fun w hw => hts w (List.mem_cons_of_mem _ hw), B.notSynchronized, hT⟩ s.heap [] _ hP va_S.rf ⟨hl.1, hl.2.1, fun j w h => ?_⟩
  have m0 : (0, Value.int i) ∈ lv_args 0 [Value.int i, .int n, v] := List.mem_cons_self
  have m1 : (1, Value.int n) ∈ lv_args 0 [Value.int i, .int n, v] := List.mem_cons_of_mem _ List.mem_cons_self
  match j, h with
  | 0, h =>
    have e : w = .inl i := by simpa [lget] using h.symm
    rw [e]; exact hl.2.2 _ m0
  | 1, h =>
    have e : w = .inl n := by simpa [lget] using h.symm
    rw [e]; exact hl.2.2 _ m1
  | j + 2, h => simp [lget] at h
theorem aw_chk {Γ : Gam} {D : Nat} {I : Mi} {P : Int32 → Mem → Prop} {pc : Nat} {ls : List (Option AV)} {st : List AV} {g : Mem} {i n : Int32} (ho : I.2.1 = RJ0) (h0 : ¬ i < 0) (h1 : i < n) (hD : 2 ≤ D) (hs8 : st.length ≤ 8) (hd1 : decode I.1 pc = .ok (.getstatic 1053, 3)) (hd2 : decode I.1 (pc + 3) = .ok (.invokestatic 1059, 3)) (K : AW Γ D I P (pc + 6) ls (.inl i :: st) g) : AW Γ D I P pc ls (.inl n :: .inl i :: st) g := by
  intro p e s m args below meth c hO H locs lsA hP hS hL
  have hs := hO.2.2.2.2.2.2.2.2.2.1
  have hw := ckJ3_checkIndex_8e157.1
  have hcode : Cond.code yJ3_checkIndex_8e157 iJ3_checkIndex_8e157.1 iJ3_checkIndex_8e157.2.2.1 iJ3_checkIndex_8e157.2.2.2 ∈ GW := hw _ (by simp)
  have ht := hO.2.2.2.2.2.1
  have hown : s.vm.findClass RJ0 = some m.cls := by rw [← ho]; exact hO.2.2.2.2.1
  have go : ∀ v : Value, (v = .null ∨ ∃ t, v = .ref t) → va_Z "jdk/internal/util/Preconditions" "SIOOBE_FORMATTER" "Ljava/util/function/BiFunction;" v (fr Γ) s s.heap → W p Γ.1 e (rmD D) s m args below meth c H locs 0 0 (MQ below (QcG Γ I.2.2.2 P) args s 0 0 (fr Γ)) (F0 m pc lsA ((.inl n :: .inl i :: st).map (avV Γ.2.2.2.1))) := by
    intro v hv hz
    refine va_gets hO.1 hO.2.1 hz hS hown (ht _ fkJ0_1053) (fun x h => h) hd1 ?_
    have hcw := va_cwS (R := rmD D) (s := s) (args := args) (own := RJ0) (index := 1059) (y := yJ3_checkIndex_8e157) (rm := rmD 1) (mc := 0) (ms := 0) 3 ht (gApp (fun w h => by
      simp only [List.mem_cons, List.not_mem_nil, or_false] at h
      rcases h with rfl | rfl | rfl
      · exact lkJ0_1059
      · exact hw _ (by simp)
      · exact hw _ (by simp)) (gIn hcode)) rfl rfl rfl ckJ3_checkIndex_8e157.2.1 (rm_ok hD ckJ3_checkIndex_8e157.2.2)
    have hrun := va_runS (e := e) (below := below) (meth := meth) (H := H) (locs := locs) (cells := 0) (slots := 0) (g := F0 m (pc + 3) lsA (v :: .int n :: .int i :: st.map (avV Γ.2.2.2.1))) (As := [.int i, .int n, v]) (rest := st.map (avV Γ.2.2.2.1)) ⟨hO.1, hO.2.1, hO.2.2.2.1, hown, ht⟩ (ct_J3_check (Γ := Γ) (g := g) v hv h0 h1) hcw ⟨fun a U g' mk q => ⟨q.1, q.2.1, Tb.same (u := U) rfl q.2.2⟩, fun U hU hW => ⟨rfl, by rw [hU]; exact hP, by rw [hU]; exact hO.2.2.2.2.2.2.2.warm hW (fun a z1 z2 => hS.2.1 a z1 z2)⟩⟩ rfl rfl hL.1 rfl (lv_room (by rw [cat_sum]; exact hs8)) hd2 ⟨Nat.le_refl _, Nat.le_refl _⟩
    refine va_calli hrun hS (fun q _ h => h) (fun q h => h) (fun r u t H1 locs1 ht1 hvm hw1 hB hz hk1 hS1 => ?_)
    have hB2 : va_P (dd Γ) vwCl (wd Γ u) t.heap := hB
    rw [ht1] at hB2
    obtain ⟨rfl, rfl⟩ := hw1
    exact K p e s m args below meth c hO H1 locs1 lsA hB2 hS1 hL
  rcases hs.2.2.2.1 with hz | ⟨t, hz⟩
  · exact go _ (Or.inl rfl) hz
  · exact go _ (Or.inr ⟨t, rfl⟩) hz
theorem ct_J0_coder {Γ : Gam} {i : Nat} (hi : i < 5) {g : Mem} : Runs Γ 1 yJ0_coder_7d493 iJ0_coder_7d493 [.inr (200 + i)] g (fun r g' => r = 0 ∧ g' = g) :=
  Runs.intro (by decide) rfl (Nat.le_of_ble_eq_true rfl) (aw_gcs fkJ0_38 dJ0_coder_7d493_0 (aw_if_eq 13 dJ0_coder_7d493_3 (by decide) (fun c => absurd c (by decide)) (fun _ => aw_aload_n dJ0_coder_7d493_6 rfl (aw_scod hi fkJ0_15 dJ0_coder_7d493_7 (aw_goto 14 dJ0_coder_7d493_10 (by decide) (aw_iret rfl rfl dJ0_coder_7d493_14 ⟨rfl, rfl⟩))))))
theorem ct_J0_isLatin1 {Γ : Gam} {i : Nat} (hi : i < 5) {g : Mem} : Runs Γ 1 yJ0_isLatin1_aae02 iJ0_isLatin1_aae02 [.inr (200 + i)] g (fun r g' => r = 1 ∧ g' = g) :=
  Runs.intro (by decide) rfl (Nat.le_of_ble_eq_true rfl) (aw_gcs fkJ0_38 dJ0_isLatin1_aae02_0 (aw_if_eq 17 dJ0_isLatin1_aae02_3 (by decide) (fun c => absurd c (by decide)) (fun _ => aw_aload_n dJ0_isLatin1_aae02_6 rfl (aw_scod hi fkJ0_15 dJ0_isLatin1_aae02_7 (aw_if_ne 17 dJ0_isLatin1_aae02_10 (by decide) (fun c => absurd rfl c) (fun _ => aw_iconst 1 dJ0_isLatin1_aae02_13 (by decide) (aw_goto 18 dJ0_isLatin1_aae02_14 (by decide) (aw_iret rfl (by decide) dJ0_isLatin1_aae02_18 ⟨rfl, rfl⟩))))))))
theorem ct_J0_checkIndex {Γ : Gam} {x n : Int32} (h0 : ¬ x < 0) (h1 : x < n) {g : Mem} : Runs Γ 2 yJ0_checkIndex_df160 iJ0_checkIndex_df160 [.inl x, .inl n] g (fun r g' => r = 0 ∧ g' = g) :=
  Runs.intro (by decide) rfl (Nat.le_of_ble_eq_true rfl) (aw_iload_n dJ0_checkIndex_df160_0 rfl (aw_iload_n dJ0_checkIndex_df160_1 rfl (aw_chk rfl h0 h1 (by decide) (Nat.le_of_ble_eq_true rfl) dJ0_checkIndex_df160_2 dJ0_checkIndex_df160_5 (aw_pop dJ0_checkIndex_df160_8 (aw_vret rfl dJ0_checkIndex_df160_9 ⟨rfl, rfl⟩)))))
theorem sl_shr : ∀ i, i < 5 → nI (sLen.getD i 0) >>> ((0 : Int32) &&& 31) = nI (sLen.getD i 0) := by decide +kernel
theorem sl_len : ∀ i, i < 5 → (wls.getD i []).length = sLen.getD i 0 ∧ sLen.getD i 0 ≤ 7 := by decide +kernel
theorem sl_chr : ∀ i, i < 5 → ∀ k, k < sLen.getD i 0 → ((((sByt.getD i []).getD k 0) &&& 255).toUInt32 % 65536).toInt32 = nI ((wls.getD i []).getD k 0) := by decide +kernel
theorem sl_nar : ∀ i, i < 5 → ∀ k, k < sLen.getD i 0 → (wls.getD i []).getD k 0 ≤ 255 := by decide +kernel
theorem nar_char {k : Nat} (h : k ≤ 255) : narrow .char (.int (nI k)) = .int (nI k) := by
  have : ∀ k, k < 256 → vp_nar .char (nI k) = nI k := by decide +kernel
  exact congrArg Value.int (this k (by omega))
theorem vp_ex {x : Int32} {N : Nat} (h : vp_in x N) : ¬ x < 0 ∧ x.toNatClampNeg < N ∧ x = nI x.toNatClampNeg := by
  have h0 : ¬ x < 0 := fun c => h (Or.inl c)
  refine ⟨h0, Nat.not_le.mp (fun c => h (Or.inr c)), ?_⟩
  rw [lt_iff32, show (0 : Int32).toInt = 0 from rfl] at h0
  exact (nI_ix (by omega)).symm
theorem ct_J0_length {Γ : Gam} {i : Nat} (hi : i < 5) {g : Mem} : Runs Γ 2 yJ0_length_8abf5 iJ0_length_8abf5 [.inr (200 + i)] g (fun r g' => r = nI (sLen.getD i 0) ∧ g' = g) :=
  Runs.intro (by decide) rfl (Nat.le_of_ble_eq_true rfl) (aw_aload_n dJ0_length_8abf5_0 rfl (aw_sval hi fkJ0_9 dJ0_length_8abf5_1 (aw_blen hi dJ0_length_8abf5_4 (aw_aload_n dJ0_length_8abf5_5 rfl (aw_callSt lkJ0_335 ckJ0_coder_7d493 hi (d := 1) (by decide) [] rfl rfl (Nat.le_of_ble_eq_true rfl) dJ0_length_8abf5_6 rfl (Runs.fn (ct_J0_coder hi) (aw_ishr dJ0_length_8abf5_9 (aw_iret rfl (vp_nar_int _) dJ0_length_8abf5_10 ⟨sl_shr i hi, rfl⟩))))))))
theorem ct_J1_charAt {Γ : Gam} {i : Nat} (hi : i < 5) {x : Int32} (hx : vp_in x (sLen.getD i 0)) {g : Mem} : Runs Γ 3 yJ1_charAt_3b067 iJ1_charAt_3b067 [.inr (300 + i), .inl x] g (fun r g' => r = nI ((wls.getD i []).getD x.toNatClampNeg 0) ∧ g' = g) := by
  obtain ⟨h0, h1, h2⟩ := vp_ex hx
  have hl := (sl_len i hi).2
  have h3 : x < nI (sLen.getD i 0) := by
    rw [h2]
    exact (nI_ltI (by omega) (by omega)).mpr h1
  have e := sl_chr i hi _ h1
  exact Runs.intro (by decide) rfl (Nat.le_of_ble_eq_true rfl) (aw_iload_n dJ1_charAt_3b067_0 rfl (aw_aload_n dJ1_charAt_3b067_1 rfl (aw_blen hi dJ1_charAt_3b067_2 (aw_callSv lkJ1_9 ckJ0_checkIndex_df160 (d := 2) (by decide) [.inl x, .inl (nI (sLen.getD i 0))] rfl rfl (Nat.le_of_ble_eq_true rfl) dJ1_charAt_3b067_3 rfl (Runs.fn (ct_J0_checkIndex h0 h3) (aw_aload_n dJ1_charAt_3b067_6 rfl (aw_iload_n dJ1_charAt_3b067_7 rfl (aw_bald hi dJ1_charAt_3b067_8 hx (aw_sipush 255 dJ1_charAt_3b067_9 (by decide) (aw_iand dJ1_charAt_3b067_12 (aw_i2c dJ1_charAt_3b067_13 (aw_iret rfl (by rw [e]; exact nar_char (sl_nar i hi _ h1)) dJ1_charAt_3b067_14 ⟨e, rfl⟩))))))))))))
theorem ct_J0_charAt {Γ : Gam} {i : Nat} (hi : i < 5) {x : Int32} {g : Mem} (hx : vp_in x (sLen.getD i 0)) : Runs Γ 5 yJ0_charAt_5068e iJ0_charAt_5068e [.inr (200 + i), .inl x] g (fun r g' => r = nI ((wls.getD i []).getD x.toNatClampNeg 0) ∧ g' = g) := by
  obtain ⟨h0, h1, h2⟩ := vp_ex hx
  exact Runs.intro (by decide) rfl (Nat.le_of_ble_eq_true rfl) (aw_aload_n dJ0_charAt_5068e_0 rfl (aw_callSt lkJ0_492 ckJ0_isLatin1_aae02 hi (d := 1) (by decide) [] rfl rfl (Nat.le_of_ble_eq_true rfl) dJ0_charAt_5068e_1 rfl (Runs.fn (ct_J0_isLatin1 hi) (aw_if_eq 16 dJ0_charAt_5068e_4 (by decide) (fun c => absurd c (by decide)) (fun _ => aw_aload_n dJ0_charAt_5068e_7 rfl (aw_sval hi fkJ0_9 dJ0_charAt_5068e_8 (aw_iload_n dJ0_charAt_5068e_11 rfl (aw_callSi lkJ0_495 ckJ1_charAt_3b067 (d := 3) (by decide) [.inr (300 + i), .inl x] rfl rfl (Nat.le_of_ble_eq_true rfl) dJ0_charAt_5068e_12 rfl (Runs.fn (ct_J1_charAt hi hx) (aw_iret rfl (nar_char (sl_nar i hi _ h1)) dJ0_charAt_5068e_15 ⟨rfl, rfl⟩))))))))))
theorem sg_X5_tokenIs_0 {Γ : Gam} {P : Int32 → Mem → Prop} (w : Nat) (hw : w < 5) {g : Mem} (h : ((((g 1 4) - (g 1 3)) = (nI (sLen.getD w 0)) → AW Γ 6 iX5_tokenIs P 20 [some (.inr 1), some (.inr (200 + w)), some (.inl 0)] [] g) ∧ (¬ ((g 1 4) - (g 1 3)) = (nI (sLen.getD w 0)) → P 0 g))) : AW Γ 6 iX5_tokenIs P 0 [some (.inr 1), some (.inr (200 + w))] [] g :=
  (aw_aload_n dX5_tokenIs_0 rfl (aw_geti fkX5_25 fa_1_4 dX5_tokenIs_1 (aw_aload_n dX5_tokenIs_4 rfl (aw_geti fkX5_22 fa_1_3 dX5_tokenIs_5 (aw_isub dX5_tokenIs_8 (aw_aload_n dX5_tokenIs_9 rfl (aw_callSt lkX5_104 ckJ0_length_8abf5 hw (d := 2) (by decide) [] rfl rfl (Nat.le_of_ble_eq_true rfl) dX5_tokenIs_10 rfl (Runs.fn (ct_J0_length hw) (aw_icmp_eq 18 dX5_tokenIs_13 (by decide) (fun c1 => (aw_iconst 0 dX5_tokenIs_18 (by decide) (aw_istore_n [some (.inr 1), some (.inr (200 + w)), some (.inl 0)] dX5_tokenIs_19 (by decide) rfl (aw_mask [true, true, true] rfl (h.1 c1))))) (fun c1 => (aw_iconst 0 dX5_tokenIs_16 (by decide) (aw_iret rfl (by decide) dX5_tokenIs_17 (h.2 c1)))))))))))))
theorem sg_X5_tokenIs_20 {Γ : Gam} {P : Int32 → Mem → Prop} (w : Nat) (hw : w < 5) (a2 : Int32) {g : Mem} (h : (((nI (sLen.getD w 0)) ≤ a2 → P 1 g) ∧ (¬ ((nI (sLen.getD w 0)) ≤ a2) → (vp_in ((g 1 3) + a2) 160 ∧ (vp_in a2 (sLen.getD w 0) ∧ (((g 2 ((g 1 3) + a2).toNatClampNeg) = (nI ((wls.getD w []).getD a2.toNatClampNeg 0)) → AW Γ 6 iX5_tokenIs P 20 [some (.inr 1), some (.inr (200 + w)), some (.inl (a2 + 1))] [] g) ∧ (¬ (g 2 ((g 1 3) + a2).toNatClampNeg) = (nI ((wls.getD w []).getD a2.toNatClampNeg 0)) → P 0 g))))))) : AW Γ 6 iX5_tokenIs P 20 [some (.inr 1), some (.inr (200 + w)), some (.inl a2)] [] g :=
  (aw_iload_n dX5_tokenIs_20 rfl (aw_aload_n dX5_tokenIs_21 rfl (aw_callSt lkX5_104 ckJ0_length_8abf5 hw (d := 2) (by decide) [] rfl rfl (Nat.le_of_ble_eq_true rfl) dX5_tokenIs_22 rfl (Runs.fn (ct_J0_length hw) (aw_icmp_ge 55 dX5_tokenIs_25 (by decide) (fun c1 => (aw_iconst 1 dX5_tokenIs_55 (by decide) (aw_iret rfl (by decide) dX5_tokenIs_56 (h.1 c1)))) (fun c1 => (aw_aload_n dX5_tokenIs_28 rfl (aw_getr 2 fkX5_9 fa_1_0 dX5_tokenIs_29 (aw_aload_n dX5_tokenIs_32 rfl (aw_geti fkX5_22 fa_1_3 dX5_tokenIs_33 (aw_iload_n dX5_tokenIs_36 rfl (aw_iadd dX5_tokenIs_37 (aw_iald aa_2 dX5_tokenIs_38 (h.2 c1).1 (aw_aload_n dX5_tokenIs_39 rfl (aw_iload_n dX5_tokenIs_40 rfl (aw_callSt lkX5_108 ckJ0_charAt_5068e hw (d := 5) (by decide) [.inl a2] rfl rfl (Nat.le_of_ble_eq_true rfl) dX5_tokenIs_41 rfl (Runs.fn ((ct_J0_charAt hw) (h.2 c1).2.1) (aw_icmp_eq 49 dX5_tokenIs_44 (by decide) (fun c2 => (aw_iinc (a2 + 1) [some (.inr 1), some (.inr (200 + w)), some (.inl (a2 + 1))] dX5_tokenIs_49 rfl (by rfl) (by decide) rfl (aw_goto 20 dX5_tokenIs_52 (by decide) (aw_mask [true, true, true] rfl ((h.2 c1).2.2.1 c2))))) (fun c2 => (aw_iconst 0 dX5_tokenIs_47 (by decide) (aw_iret rfl (by decide) dX5_tokenIs_48 ((h.2 c1).2.2.2 c2))))))))))))))))))))))
theorem lp_tokenIs {Γ : Gam} {P : Int32 → Mem → Prop} {L : Nat} {c : Nat → Nat} {g : Mem} {f b w : Nat} (hw : w < 5) (hL : L ≤ 160) (hc : ∀ j, j < L → c j ≤ 255) (hT : TC L c g) (h3 : g 1 3 = nI f) (hb : b ≤ L) (hl : b - f = sLen.getD w 0) (hfb : f ≤ b) (hP : P (bi (mtc c f (wls.getD w []))) g) : ∀ n k, k + n = sLen.getD w 0 → mtc c f (wls.getD w []) = mtc c (f + k) ((wls.getD w []).drop k) → AW Γ 6 iX5_tokenIs P 20 [some (.inr 1), some (.inr (200 + w)), some (.inl (nI k))] [] g := by
  obtain ⟨q1, q2⟩ := sl_len w hw
  intro n
  induction n with
  | zero =>
    intro k hk hm
    refine sg_X5_tokenIs_20 w hw _ ⟨fun _ => ?_, fun d => absurd (nI_le (by omega) (by omega)) d⟩
    rw [List.drop_eq_nil_of_le (by omega)] at hm
    rw [hm] at hP
    exact hP
  | succ n ih =>
    intro k hk hm
    have hck := hc (f + k) (by omega)
    have hkl : k < (wls.getD w []).length := by omega
    have hx := sl_nar w hw k (by omega)
    have ex : (wls.getD w []).getD k 0 = (wls.getD w [])[k] := by rw [List.getD_eq_getElem?_getD, List.getElem?_eq_getElem hkl]; rfl
    rw [List.drop_eq_getElem_cons hkl, mtc, ← ex] at hm
    refine sg_X5_tokenIs_20 w hw _ ?_
    rw [h3, nI_add, ix_nI (n := f + k) (by omega), ix_nI (n := k) (by omega), hT.2 _ (by omega), nI_eq (by omega) (by omega), nI_1]
    refine ⟨fun d => absurd d (nI_ge (by omega) (by omega)), fun _ => ⟨vp_nI (by omega) (by decide), vp_nI (by omega) (by omega), fun d => ?_, fun d => ?_⟩⟩
    · rw [decide_eq_true d, Bool.true_and] at hm
      exact ih (k + 1) (by omega) hm
    · rw [decide_eq_false d, Bool.false_and] at hm
      rw [hm] at hP
      exact hP
theorem ct_X5_tokenIs {Γ : Gam} {L : Nat} {c : Nat → Nat} {g : Mem} {f b : Nat} (w : Nat) (hw : w < 5) (hL : L ≤ 160) (hc : ∀ j, j < L → c j ≤ 255) (hT : TC L c g) (h3 : g 1 3 = nI f) (h4 : g 1 4 = nI b) (hb : b ≤ L) (hfb : f ≤ b) : Runs Γ 6 yX5_tokenIs iX5_tokenIs [.inr 1, .inr (200 + w)] g (fun r g' => r = bi (isw c f b (wls.getD w [])) ∧ g' = g) := by
  obtain ⟨q1, q2⟩ := sl_len w hw
  refine Runs.intro (by decide) rfl (Nat.le_of_ble_eq_true rfl) (sg_X5_tokenIs_0 w hw ?_)
  rw [h3, h4, nI_sb hfb, nI_eq (by omega) (by omega)]
  unfold isw
  rw [q1]
  refine ⟨fun d => ?_, fun d => ?_⟩
  · rw [decide_eq_true d, Bool.true_and]
    exact lp_tokenIs (P := fun r g' => r = bi (mtc c f (wls.getD w [])) ∧ g' = g) hw hL hc hT h3 hb d hfb ⟨rfl, rfl⟩ (sLen.getD w 0) 0 (by omega) rfl
  · rw [decide_eq_false d]
    exact ⟨rfl, rfl⟩
/-- the statement's word at the token, or -1 -/
def fst (L : Nat) (c : Nat → Nat) (i : Nat) : Int32 := if tT L c i = 1 ∧ kwd c (tF L c i) (tB L c i) ≠ 9 then nI (kwd c (tF L c i) (tB L c i)) else -1
theorem sg_X5_findStatement_0 {Γ : Gam} {P : Int32 → Mem → Prop}  {g : Mem} (h : (((g 1 2) = 1 → (Runs Γ 6 yX5_tokenIs iX5_tokenIs [.inr 1, .inr 200] g (fun r1 g1 => ((r1 = 0 → (Runs Γ 6 yX5_tokenIs iX5_tokenIs [.inr 1, .inr 201] g1 (fun r2 g2 => ((r2 = 0 → (Runs Γ 6 yX5_tokenIs iX5_tokenIs [.inr 1, .inr 202] g2 (fun r3 g3 => ((r3 = 0 → (Runs Γ 6 yX5_tokenIs iX5_tokenIs [.inr 1, .inr 203] g3 (fun r4 g4 => ((r4 = 0 → (Runs Γ 6 yX5_tokenIs iX5_tokenIs [.inr 1, .inr 204] g4 (fun r5 g5 => ((r5 = 0 → P (-1) g5) ∧ (¬ r5 = 0 → P 4 g5))))) ∧ (¬ r4 = 0 → P 3 g4))))) ∧ (¬ r3 = 0 → P 2 g3))))) ∧ (¬ r2 = 0 → P 1 g2))))) ∧ (¬ r1 = 0 → P 0 g1))))) ∧ (¬ (g 1 2) = 1 → P (-1) g))) : AW Γ 7 iX5_findStatement P 0 [some (.inr 1)] [] g :=
  (aw_aload_n dX5_findStatement_0 rfl (aw_geti fkX5_19 fa_1_2 dX5_findStatement_1 (aw_iconst 1 dX5_findStatement_4 (by decide) (aw_icmp_eq 10 dX5_findStatement_5 (by decide) (fun c1 => (aw_aload_n dX5_findStatement_10 rfl (aw_ldcs (i := 0) rfl rfl dX5_findStatement_11 (aw_callVi lkX5_92 ckX5_tokenIs ca_1 rfl (d := 6) (by decide) [.inr 200] rfl rfl (Nat.le_of_ble_eq_true rfl) dX5_findStatement_13 rfl (Runs.mono (h.1 c1) (fun r1 g1 h1_ => (aw_if_eq 21 dX5_findStatement_16 (by decide) (fun c2 => (aw_aload_n dX5_findStatement_21 rfl (aw_ldcs (i := 1) rfl rfl dX5_findStatement_22 (aw_callVi lkX5_92 ckX5_tokenIs ca_1 rfl (d := 6) (by decide) [.inr 201] rfl rfl (Nat.le_of_ble_eq_true rfl) dX5_findStatement_24 rfl (Runs.mono (h1_.1 c2) (fun r2 g2 h2_ => (aw_if_eq 32 dX5_findStatement_27 (by decide) (fun c3 => (aw_aload_n dX5_findStatement_32 rfl (aw_ldcs (i := 2) rfl rfl dX5_findStatement_33 (aw_callVi lkX5_92 ckX5_tokenIs ca_1 rfl (d := 6) (by decide) [.inr 202] rfl rfl (Nat.le_of_ble_eq_true rfl) dX5_findStatement_35 rfl (Runs.mono (h2_.1 c3) (fun r3 g3 h3_ => (aw_if_eq 43 dX5_findStatement_38 (by decide) (fun c4 => (aw_aload_n dX5_findStatement_43 rfl (aw_ldcs (i := 3) rfl rfl dX5_findStatement_44 (aw_callVi lkX5_92 ckX5_tokenIs ca_1 rfl (d := 6) (by decide) [.inr 203] rfl rfl (Nat.le_of_ble_eq_true rfl) dX5_findStatement_46 rfl (Runs.mono (h3_.1 c4) (fun r4 g4 h4_ => (aw_if_eq 54 dX5_findStatement_49 (by decide) (fun c5 => (aw_aload_n dX5_findStatement_54 rfl (aw_ldcs (i := 4) rfl rfl dX5_findStatement_55 (aw_callVi lkX5_92 ckX5_tokenIs ca_1 rfl (d := 6) (by decide) [.inr 204] rfl rfl (Nat.le_of_ble_eq_true rfl) dX5_findStatement_57 rfl (Runs.mono (h4_.1 c5) (fun r5 g5 h5_ => (aw_if_eq 67 dX5_findStatement_60 (by decide) (fun c6 => (aw_iconst (-1) dX5_findStatement_67 (by decide) (aw_iret rfl (vp_nar_int _) dX5_findStatement_68 (h5_.1 c6)))) (fun c6 => (aw_iconst 4 dX5_findStatement_63 (by decide) (aw_goto 68 dX5_findStatement_64 (by decide) (aw_iret rfl (vp_nar_int _) dX5_findStatement_68 (h5_.2 c6)))))))))))) (fun c5 => (aw_iconst 3 dX5_findStatement_52 (by decide) (aw_iret rfl (vp_nar_int _) dX5_findStatement_53 (h4_.2 c5))))))))))) (fun c4 => (aw_iconst 2 dX5_findStatement_41 (by decide) (aw_iret rfl (vp_nar_int _) dX5_findStatement_42 (h3_.2 c4))))))))))) (fun c3 => (aw_iconst 1 dX5_findStatement_30 (by decide) (aw_iret rfl (vp_nar_int _) dX5_findStatement_31 (h2_.2 c3))))))))))) (fun c2 => (aw_iconst 0 dX5_findStatement_19 (by decide) (aw_iret rfl (vp_nar_int _) dX5_findStatement_20 (h1_.2 c2))))))))))) (fun c1 => (aw_iconst (-1) dX5_findStatement_8 (by decide) (aw_iret rfl (vp_nar_int _) dX5_findStatement_9 (h.2 c1))))))))
theorem ct_X5_findStatement {Γ : Gam} {L : Nat} {c : Nat → Nat} {g : Mem} {i : Nat} (hL : L ≤ 160) (hc : ∀ j, j < L → c j ≤ 255) (hi : i ≤ L) (hT : TkC L c i g) : Runs Γ 7 yX5_findStatement iX5_findStatement [.inr 1] g (fun r g' => r = fst L c i ∧ g' = g) := by
  obtain ⟨t1, t2, t3, t4⟩ := hT
  have hF := tF_le (c := c) hi
  have hB := tB_le (c := c) hi
  have tk : ∀ w, w < 5 → Runs Γ 6 yX5_tokenIs iX5_tokenIs [.inr 1, .inr (200 + w)] g (fun r g' => r = bi (isw c (tF L c i) (tB L c i) (wls.getD w [])) ∧ g' = g) := fun w hw => ct_X5_tokenIs w hw hL hc t1 t3 t4 hB.2.1 hB.1
  have e0 : wls.getD 0 [] = [97, 103, 101, 110, 116] := rfl
  have e1 : wls.getD 1 [] = [98, 111, 120] := rfl
  have e2 : wls.getD 2 [] = [107, 101, 121] := rfl
  have e3 : wls.getD 3 [] = [102, 97, 99, 116, 111, 114, 121] := rfl
  have e4 : wls.getD 4 [] = [104, 111, 108, 100] := rfl
  have htt : tT L c i ≤ 4 := by
    have := ty_le (c (tF L c i))
    unfold tT
    split <;> omega
  refine Runs.intro (by decide) rfl (Nat.le_of_ble_eq_true rfl) (sg_X5_findStatement_0 ?_)
  rw [t2, show (1 : Int32) = nI 1 from rfl, nI_eq (by omega) (by decide)]
  unfold fst
  refine ⟨fun d => ?_, fun d => by rw [if_neg (fun q => d q.1)]; exact ⟨rfl, rfl⟩⟩
  have k1 : ∀ (k : Nat) (v : Int32), kwd c (tF L c i) (tB L c i) = k → k ≠ 9 → v = nI k → v = (if tT L c i = 1 ∧ kwd c (tF L c i) (tB L c i) ≠ 9 then nI (kwd c (tF L c i) (tB L c i)) else -1) ∧ g = g := by
    intro k v e1 e2 e3
    rw [e1, if_pos ⟨d, e2⟩]
    exact ⟨e3, rfl⟩
  refine Runs.fn (tk 0 (by decide)) ⟨fun q0 => Runs.fn (tk 1 (by decide)) ⟨fun q1 => Runs.fn (tk 2 (by decide)) ⟨fun q2 => Runs.fn (tk 3 (by decide)) ⟨fun q3 => Runs.fn (tk 4 (by decide)) ⟨fun q4 => ?_, fun q4 => ?_⟩, fun q3 => ?_⟩, fun q2 => ?_⟩, fun q1 => ?_⟩, fun q0 => ?_⟩
  · rw [bi_eq0, e0] at q0; rw [bi_eq0, e1] at q1; rw [bi_eq0, e2] at q2; rw [bi_eq0, e3] at q3; rw [bi_eq0, e4] at q4
    have e : kwd c (tF L c i) (tB L c i) = 9 := by unfold kwd; simp [q0, q1, q2, q3, q4]
    rw [e, if_neg (fun z => z.2 rfl)]
    exact ⟨rfl, rfl⟩
  · rw [bi_eq0, e0] at q0; rw [bi_eq0, e1] at q1; rw [bi_eq0, e2] at q2; rw [bi_eq0, e3] at q3; rw [bi_ne0, e4] at q4
    exact k1 4 4 (by unfold kwd; simp [q0, q1, q2, q3, q4]) (by decide) rfl
  · rw [bi_eq0, e0] at q0; rw [bi_eq0, e1] at q1; rw [bi_eq0, e2] at q2; rw [bi_ne0, e3] at q3
    exact k1 3 3 (by unfold kwd; simp [q0, q1, q2, q3]) (by decide) rfl
  · rw [bi_eq0, e0] at q0; rw [bi_eq0, e1] at q1; rw [bi_ne0, e2] at q2
    exact k1 2 2 (by unfold kwd; simp [q0, q1, q2]) (by decide) rfl
  · rw [bi_eq0, e0] at q0; rw [bi_ne0, e1] at q1
    exact k1 1 1 (by unfold kwd; simp [q0, q1]) (by decide) rfl
  · rw [bi_ne0, e0] at q0
    exact k1 0 0 (by unfold kwd; simp [q0]) (by decide) rfl
