/-! The law's loop and its start. -/
section LWL
variable {Γ : Gam} {p : Program} {e : Env} {s : State} {m : MethodId} {below : List Frame} {meth : Method} {c : Code} {b L : Nat} {xs : Nat → Int32} {H : Heap} {locs : List Loc} {g : Mem} {ls : Array Slot} {Q : State → Prop}
theorem lw_switch (C : LwX Γ p s m meth c b L xs) (hL : L ≤ 2048) {i : Nat} (hi : i + 4 ≤ L) {a : Ab} (I : LwI Γ s a g H locs) (hl : lv_has ls 4 [(0, .ref b), (1, .ref (Γ.2.2.2.1 0)), (2, .ref (Γ.2.2.2.1 26)), (3, .int (nI i))]) (next : ∀ (a' : Ab) (g' : Mem) (H' : Heap) (locs' : List Loc), LwI Γ s a' g' H' locs' → W p Γ.1 e room_1 s m #[Value.ref b] below meth c H' locs' 104 2677 Q (F0 m 948 ls [])) {j : Nat} (hj : j < 32) : W p Γ.1 e room_1 s m #[Value.ref b] below meth c H locs 104 2677 Q (F0 m 32 ls [.int (nI j)]) := by
  obtain ⟨hx, hb, hrt, hml, hown, hts, hX, hbl, hlocks, hgv⟩ := C.1
  match j, hj with
  | 0, _ => exact lv_tableIn (tgt := 168) hx hb dL_law_32 (by decide) (by decide) rfl (by decide) (lw_c0 C hL hi I hl next)
  | 1, _ => exact lv_tableIn (tgt := 191) hx hb dL_law_32 (by decide) (by decide) rfl (by decide) (lw_c1 C hL hi I hl next)
  | 2, _ => exact lv_tableIn (tgt := 204) hx hb dL_law_32 (by decide) (by decide) rfl (by decide) (lw_c2 C hL hi I hl next)
  | 3, _ => exact lv_tableIn (tgt := 217) hx hb dL_law_32 (by decide) (by decide) rfl (by decide) (lw_c3 C hL hi I hl next)
  | 4, _ => exact lv_tableIn (tgt := 230) hx hb dL_law_32 (by decide) (by decide) rfl (by decide) (lw_c4 C hL hi I hl next)
  | 5, _ => exact lv_tableIn (tgt := 253) hx hb dL_law_32 (by decide) (by decide) rfl (by decide) (lw_c5 C hL hi I hl next)
  | 6, _ => exact lv_tableIn (tgt := 276) hx hb dL_law_32 (by decide) (by decide) rfl (by decide) (lw_c6 C hL hi I hl next)
  | 7, _ => exact lv_tableIn (tgt := 309) hx hb dL_law_32 (by decide) (by decide) rfl (by decide) (lw_c7 C hL hi I hl next)
  | 8, _ => exact lv_tableIn (tgt := 342) hx hb dL_law_32 (by decide) (by decide) rfl (by decide) (lw_c8 C hL hi I hl next)
  | 9, _ => exact lv_tableIn (tgt := 375) hx hb dL_law_32 (by decide) (by decide) rfl (by decide) (lw_c9 C hL hi I hl next)
  | 10, _ => exact lv_tableIn (tgt := 398) hx hb dL_law_32 (by decide) (by decide) rfl (by decide) (lw_c10 C hL hi I hl next)
  | 11, _ => exact lv_tableIn (tgt := 411) hx hb dL_law_32 (by decide) (by decide) rfl (by decide) (lw_c11 C hL hi I hl next)
  | 12, _ => exact lv_tableIn (tgt := 444) hx hb dL_law_32 (by decide) (by decide) rfl (by decide) (lw_c12 C hL hi I hl next)
  | 13, _ => exact lv_tableIn (tgt := 477) hx hb dL_law_32 (by decide) (by decide) rfl (by decide) (lw_c13 C hL hi I hl next)
  | 14, _ => exact lv_tableIn (tgt := 510) hx hb dL_law_32 (by decide) (by decide) rfl (by decide) (lw_c14 C hL hi I hl next)
  | 15, _ => exact lv_tableIn (tgt := 543) hx hb dL_law_32 (by decide) (by decide) rfl (by decide) (lw_c15 C hL hi I hl next)
  | 16, _ => exact lv_tableIn (tgt := 576) hx hb dL_law_32 (by decide) (by decide) rfl (by decide) (lw_c16 C hL hi I hl next)
  | 17, _ => exact lv_tableIn (tgt := 589) hx hb dL_law_32 (by decide) (by decide) rfl (by decide) (lw_c17 C hL hi I hl next)
  | 18, _ => exact lv_tableIn (tgt := 622) hx hb dL_law_32 (by decide) (by decide) rfl (by decide) (lw_c18 C hL hi I hl next)
  | 19, _ => exact lv_tableIn (tgt := 655) hx hb dL_law_32 (by decide) (by decide) rfl (by decide) (lw_c19 C hL hi I hl next)
  | 20, _ => exact lv_tableIn (tgt := 688) hx hb dL_law_32 (by decide) (by decide) rfl (by decide) (lw_c20 C hL hi I hl next)
  | 21, _ => exact lv_tableIn (tgt := 701) hx hb dL_law_32 (by decide) (by decide) rfl (by decide) (lw_c21 C hL hi I hl next)
  | 22, _ => exact lv_tableIn (tgt := 714) hx hb dL_law_32 (by decide) (by decide) rfl (by decide) (lw_c22 C hL hi I hl next)
  | 23, _ => exact lv_tableIn (tgt := 757) hx hb dL_law_32 (by decide) (by decide) rfl (by decide) (lw_c23 C hL hi I hl next)
  | 24, _ => exact lv_tableIn (tgt := 800) hx hb dL_law_32 (by decide) (by decide) rfl (by decide) (lw_c24 C hL hi I hl next)
  | 25, _ => exact lv_tableIn (tgt := 843) hx hb dL_law_32 (by decide) (by decide) rfl (by decide) (lw_c25 C hL hi I hl next)
  | 26, _ => exact lv_tableIn (tgt := 876) hx hb dL_law_32 (by decide) (by decide) rfl (by decide) (lw_c26 C hL hi I hl next)
  | 27, _ => exact lv_tableIn (tgt := 889) hx hb dL_law_32 (by decide) (by decide) rfl (by decide) (lw_c27 C hL hi I hl next)
  | 28, _ => exact lv_tableIn (tgt := 922) hx hb dL_law_32 (by decide) (by decide) rfl (by decide) (lw_c28 C hL hi I hl next)
  | 29, _ => exact lv_tableIn (tgt := 935) hx hb dL_law_32 (by decide) (by decide) rfl (by decide) (lw_c29 C hL hi I hl next)
  | 30, _ => exact lv_tableOut (tgt := 948) hx hb dL_law_32 (by decide) (by decide) (next a g H locs I)
  | 31, _ => exact lv_tableOut (tgt := 948) hx hb dL_law_32 (by decide) (by decide) (next a g H locs I)
  | j + 32, h => exact absurd h (by omega)
theorem law_loop (C : LwX Γ p s m meth c b L xs) (hL : L ≤ 2048) : ∀ (n i : Nat), i ≤ L → L < i + 4 * n → ∀ (a : Ab) (g : Mem) (H : Heap) (locs : List Loc) (ls : Array Slot), LwI Γ s a g H locs → lv_has ls 4 [(0, .ref b), (1, .ref (Γ.2.2.2.1 0)), (2, .ref (Γ.2.2.2.1 26)), (3, .int (nI i))] → W p Γ.1 e room_1 s m #[Value.ref b] below meth c H locs 104 2677 (lw_Z below #[Value.ref b] s) (F0 m 18 ls []) := by
  obtain ⟨hx, hb, hrt, hml, hown, hts, hX, hbl, hlocks, hgv⟩ := C.1
  have hbA : ¬ (fun q : Nat => s.heap.size ≤ q) b := Nat.not_le.mpr hbl
  intro n
  induction n with
  | zero =>
    intro i h1 h2
    exact absurd h2 (by omega)
  | succ n ih =>
    intro i hiL hn a g H locs ls I hl
    have hS := I.2.2.2.2
    refine lv_iload_n hx hb dL_law_18 rfl (lv_at hl 3 rfl) ?_
    refine lv_aload_n hx hb dL_law_19 rfl (lv_at hl 0 rfl) ?_
    refine va_slen hx hb hX hbl hbA hS dL_law_20 ?_
    refine lv_iconst (v := 4) hx hb dL_law_21 (by decide) ?_
    refine lv_isub hx hb dL_law_22 ?_
    refine lv_icmp_gt (tgt := 954) hx hb dL_law_23 (by decide) (fun z => ?_) (fun z => ?_)
    · refine lv_iconst (v := 1) hx hb dL_law_954 (by decide) ?_
      refine va_forget (fun q hq => hS.2.2 q hq) ?_
      refine W.widen (k := 600000) (n := 7302250) (Nat.le_of_ble_eq_true rfl) (Nat.le_of_ble_eq_true rfl) ?_
      exact lw_ret hx hb hrt hlocks dL_law_955
    · have hi : i + 4 ≤ L := by
        rcases Nat.lt_or_ge L (i + 4) with q | q
        · refine absurd ?_ z
          show nI L - 4 < nI i
          rw [lt_iff32, nI_toInt (n := i) (by omega)]
          rcases Nat.lt_or_ge L 4 with y | y
          · rcases (show L = 0 ∨ L = 1 ∨ L = 2 ∨ L = 3 by omega) with e0 | e0 | e0 | e0
            · rw [e0, show (nI 0 - 4 : Int32).toInt = -4 from by decide]; omega
            · rw [e0, show (nI 1 - 4 : Int32).toInt = -3 from by decide]; omega
            · rw [e0, show (nI 2 - 4 : Int32).toInt = -2 from by decide]; omega
            · rw [e0, show (nI 3 - 4 : Int32).toInt = -1 from by decide]; omega
          · rw [show (4 : Int32) = nI 4 from rfl, nI_sb y, nI_toInt (by omega)]
            omega
        · exact q
      refine lv_aload_n hx hb dL_law_26 rfl (lv_at hl 0 rfl) ?_
      refine lv_iload_n hx hb dL_law_27 rfl (lv_at hl 3 rfl) ?_
      refine va_sld hx hb hX hbl hbA hS (vp_nI (by omega) (by omega)) dL_law_28 ?_
      refine lv_bipush (v := 31) hx hb dL_law_29 (by decide) ?_
      refine lv_iand hx hb dL_law_31 ?_
      obtain ⟨j, hj, ej⟩ := pk_andE (xs (nI i).toNatClampNeg) (m := 31) 5 rfl
      rw [ej]
      refine lw_switch C hL hi I hl (fun a' g' H' locs' I' => ?_) hj
      refine lv_iinc (v := nI (i + 4)) (lv' := [(3, .int (nI (i + 4))), (0, .ref b), (1, .ref (Γ.2.2.2.1 0)), (2, .ref (Γ.2.2.2.1 26))]) hx hb dL_law_948 hl (k := 3) rfl (nI_add i 4) (by decide) rfl (fun ls hl => ?_)
      refine lv_goto (tgt := 18) hx hb dL_law_951 (by decide) ?_
      exact ih (i + 4) hi (by omega) a' g' H' locs' ls I' (lv_sub hl [1, 2, 3, 0] rfl)
end LWL
/-! The cells' places, and the world at the start. -/
def adL (u : (Nat → Nat → Nat) × (Nat → Nat → Nat)) (q : Nat → Nat) : List Nat := [u.1 0 0, u.1 1 0, u.1 1 1, u.1 1 2, u.2 0 0, u.2 0 1, u.1 5 0, u.1 5 1, u.1 5 2, u.1 5 3, u.1 5 4, u.1 5 5, u.1 6 0, u.1 6 1, u.1 6 2, u.1 6 3, u.1 6 4, u.1 6 5, u.1 6 6, u.1 6 7, u.1 6 8, u.1 6 9, u.1 7 0, u.1 7 1, u.1 8 0, u.1 8 1, q 0, q 1, q 2, q 3, q 4, q 5, q 6, q 7, u.1 2 0, u.1 2 1, u.1 2 2, u.1 2 3, u.1 2 4, u.1 2 5, u.1 2 6, u.1 2 7, u.1 2 8, u.1 2 9, u.1 3 0, u.1 3 1, u.1 3 2, u.1 3 3, u.1 3 4, u.1 3 5, u.1 3 6, u.1 3 7, u.1 3 8, u.1 3 9, u.2 1 0, u.2 1 1, u.2 1 2, u.2 1 3, u.2 1 4, u.2 1 5, u.2 1 6, u.2 1 7, u.2 1 8, u.2 1 9, u.2 2 0, u.2 2 1, u.2 2 2, u.2 2 3, u.2 2 4, u.2 2 5, u.2 2 6, u.2 2 7, u.2 2 8, u.2 2 9, u.2 3 0, u.2 3 1, u.2 3 2, u.2 3 3, u.2 3 4, u.2 3 5, u.2 3 6, u.2 3 7, u.2 3 8, u.2 3 9, u.2 4 0, u.2 4 1, u.2 4 2, u.2 4 3, u.2 4 4, u.2 4 5, u.2 4 6, u.2 4 7, u.2 4 8, u.2 4 9, u.2 5 0, u.2 5 1, u.2 5 2, u.2 5 3, u.2 5 4, u.2 5 5, u.2 5 6, u.2 5 7, u.2 5 8, u.2 5 9]
def adf (u : (Nat → Nat → Nat) × (Nat → Nat → Nat)) (q adK adV : Nat → Nat) : Nat → Nat := fun k => if k < 104 then (adL u q).getD k 0 else if k < 300 then adK (k - 200) else adV (k - 300)
abbrev mkG (l : Launch) (D : va_G) (cA : Nat → ClassId) (u : (Nat → Nat → Nat) × (Nat → Nat → Nat)) (q adK adV : Nat → Nat) : Gam := (l, D.1, D.2, adf u q adK adV, cA, adK, adV)
def g00 : Mem := fun _ _ => 0
def plL : List Nat := [0, 1, 2, 3, 24, 25, 76, 77, 78, 79, 80, 81, 82, 83, 84, 85, 86, 87, 88, 89, 90, 91, 92, 93, 94, 95, 96, 97, 98, 99, 100, 101, 102, 103, 4, 5, 6, 7, 8, 9, 10, 11, 12, 13, 14, 15, 16, 17, 18, 19, 20, 21, 22, 23, 26, 27, 28, 29, 30, 31, 32, 33, 34, 35, 36, 37, 38, 39, 40, 41, 42, 43, 44, 45, 46, 47, 48, 49, 50, 51, 52, 53, 54, 55, 56, 57, 58, 59, 60, 61, 62, 63, 64, 65, 66, 67, 68, 69, 70, 71, 72, 73, 74, 75]
theorem pl_inj : ∀ i, i < 104 → ∀ j, j < 104 → plL.getD i 0 = plL.getD j 0 → i = j := by decide +kernel
theorem hs_eq {u : (Nat → Nat → Nat) × (Nat → Nat → Nat)} {q adK adV : Nat → Nat} : hsF u.2 5 = fun j => (([54, 64, 74, 84, 94] : List Nat)[j]?).map (adf u q adK adV) := by
  funext j
  match j with
  | 0 => rfl
  | 1 => rfl
  | 2 => rfl
  | 3 => rfl
  | 4 => rfl
  | n + 5 =>
    unfold hsF
    rw [if_neg (by omega)]
    rfl
set_option maxHeartbeats 4000000 in
set_option maxRecDepth 100000 in
theorem wl_at {l : Launch} {D : va_G} {cA : Nat → ClassId} {u : (Nat → Nat → Nat) × (Nat → Nat → Nat)} {q adK adV : Nat → Nat} {k : Nat} (hk : k < 104) : (wAn cA u ++ wMod cA q)[plL.getD k 0]? = some ((mkG l D cA u q adK adV).2.2.2.1 k, cellE (mkG l D cA u q adK adV) k g00) := by
  match k, hk with
  | 0, _ => rfl
  | 1, _ => rfl
  | 2, _ => rfl
  | 3, _ => rfl
  | 4, _ => rfl
  | 5, _ =>
    show some (u.2 0 1, Sum.inl (cA 2, 5, Sum.inr (Sum.inr (Sum.inr (Sum.inr (hsF u.2 5)))))) = _
    rw [hs_eq (u := u) (q := q) (adK := adK) (adV := adV)]
    rfl
  | 6, _ => rfl
  | 7, _ => rfl
  | 8, _ => rfl
  | 9, _ => rfl
  | 10, _ => rfl
  | 11, _ => rfl
  | 12, _ => rfl
  | 13, _ => rfl
  | 14, _ => rfl
  | 15, _ => rfl
  | 16, _ => rfl
  | 17, _ => rfl
  | 18, _ => rfl
  | 19, _ => rfl
  | 20, _ => rfl
  | 21, _ => rfl
  | 22, _ => rfl
  | 23, _ => rfl
  | 24, _ => rfl
  | 25, _ => rfl
  | 26, _ => rfl
  | 27, _ => rfl
  | 28, _ => rfl
  | 29, _ => rfl
  | 30, _ => rfl
  | 31, _ => rfl
  | 32, _ => rfl
  | 33, _ => rfl
  | 34, _ => rfl
  | 35, _ => rfl
  | 36, _ => rfl
  | 37, _ => rfl
  | 38, _ => rfl
  | 39, _ => rfl
  | 40, _ => rfl
  | 41, _ => rfl
  | 42, _ => rfl
  | 43, _ => rfl
  | 44, _ => rfl
  | 45, _ => rfl
  | 46, _ => rfl
  | 47, _ => rfl
  | 48, _ => rfl
  | 49, _ => rfl
  | 50, _ => rfl
  | 51, _ => rfl
  | 52, _ => rfl
  | 53, _ => rfl
  | 54, _ => rfl
  | 55, _ => rfl
  | 56, _ => rfl
  | 57, _ => rfl
  | 58, _ => rfl
  | 59, _ => rfl
  | 60, _ => rfl
  | 61, _ => rfl
  | 62, _ => rfl
  | 63, _ => rfl
  | 64, _ => rfl
  | 65, _ => rfl
  | 66, _ => rfl
  | 67, _ => rfl
  | 68, _ => rfl
  | 69, _ => rfl
  | 70, _ => rfl
  | 71, _ => rfl
  | 72, _ => rfl
  | 73, _ => rfl
  | 74, _ => rfl
  | 75, _ => rfl
  | 76, _ => rfl
  | 77, _ => rfl
  | 78, _ => rfl
  | 79, _ => rfl
  | 80, _ => rfl
  | 81, _ => rfl
  | 82, _ => rfl
  | 83, _ => rfl
  | 84, _ => rfl
  | 85, _ => rfl
  | 86, _ => rfl
  | 87, _ => rfl
  | 88, _ => rfl
  | 89, _ => rfl
  | 90, _ => rfl
  | 91, _ => rfl
  | 92, _ => rfl
  | 93, _ => rfl
  | 94, _ => rfl
  | 95, _ => rfl
  | 96, _ => rfl
  | 97, _ => rfl
  | 98, _ => rfl
  | 99, _ => rfl
  | 100, _ => rfl
  | 101, _ => rfl
  | 102, _ => rfl
  | 103, _ => rfl
  | k + 104, h => exact absurd h (by omega)
theorem wl_P {l : Launch} {D : va_G} {cA : Nat → ClassId} {u : (Nat → Nat → Nat) × (Nat → Nat → Nat)} {q adK adV : Nat → Nat} {H : Heap} (h : va_P D vwCl (wAn cA u ++ wMod cA q) H) : va_P (dd (mkG l D cA u q adK adV)) vwCl (wd (mkG l D cA u q adK adV) g00) H := by
  intro k x hx
  have hk : k < 104 := by
    have := (List.getElem?_eq_some_iff.mp hx).1
    rwa [wd_len] at this
  rw [wd_at hk] at hx
  cases hx
  exact h _ _ (wl_at hk)
/-- the abstract state at the start -/
def a00 : Ab := (z0, [], 0, fun _ => 0)
theorem ci_00 : CI a00 g00 := by
  refine ⟨⟨rfl, fun i hi => absurd hi (Nat.not_lt_zero _), fun i hi => absurd hi (Nat.not_lt_zero _), fun i hi => absurd hi (Nat.not_lt_zero _), fun i hi => absurd hi (Nat.not_lt_zero _), rfl, fun i hi => absurd hi (Nat.not_lt_zero _), rfl, fun i hi => absurd hi (Nat.not_lt_zero _), fun i hi => rfl⟩, ⟨Nat.zero_le _, rfl, 0, by decide, rfl, fun i t h => ?_⟩, ⟨rfl, fun j hj => absurd hj (Nat.not_lt_zero _)⟩, Or.inl rfl⟩
  cases h
theorem mi_00 : MI a00 g00 := by
  refine ⟨fun j hj => rfl, ⟨Nat.zero_le _, rfl, fun i t h => ?_⟩, ⟨rfl, fun j hj => absurd hj (Nat.not_lt_zero _)⟩⟩
  cases h
theorem wa_00 : WA a00 := ⟨wf_z0, fun t h => absurd h List.not_mem_nil, Nat.zero_le _, Nat.zero_le _, fun j hj => absurd hj (Nat.not_lt_zero _)⟩
/-! What the Statement gives of the strings and statics. -/
def tmS : Nat → Term := fun i => Term.string RX5 (([90, 96, 98, 100, 102] : List Nat).getD i 0)
set_option maxHeartbeats 4000000 in
set_option maxRecDepth 100000 in
theorem str_ok {args : Array Value} {s : State} (h : (Jvm.Cond.and given_1 narrow_1).before args s = true) : ∃ adK adV : Nat → Nat, vk_S 5 sLen sByt adK adV (fun q : Nat => s.heap.size ≤ q) s s.heap ∧ ∀ i : Nat, i < 5 → (tmS i).eval args s none [] s = some (.ref (adK i)) := by
  have hs := flat_of_before _ h
  refine vk_Sof (tm := tmS) ?_ ?_ ?_ ?_ ?_ ?_ ?_ (fun a ha => Nat.not_le.mpr ha)
  · decide +kernel
  · intro i hi
    match i, hi with
    | 0, _ => exact hs (Jvm.Cond.exactly (Jvm.Term.string "ConfinementAnalyzer$Text" 90) "java/lang/String") (by decide +kernel)
    | 1, _ => exact hs (Jvm.Cond.exactly (Jvm.Term.string "ConfinementAnalyzer$Text" 96) "java/lang/String") (by decide +kernel)
    | 2, _ => exact hs (Jvm.Cond.exactly (Jvm.Term.string "ConfinementAnalyzer$Text" 98) "java/lang/String") (by decide +kernel)
    | 3, _ => exact hs (Jvm.Cond.exactly (Jvm.Term.string "ConfinementAnalyzer$Text" 100) "java/lang/String") (by decide +kernel)
    | 4, _ => exact hs (Jvm.Cond.exactly (Jvm.Term.string "ConfinementAnalyzer$Text" 102) "java/lang/String") (by decide +kernel)
    | i + 5, h => exact absurd h (by omega)
  · intro i hi
    match i, hi with
    | 0, _ => exact hs (Jvm.Cond.eq (Jvm.Term.field (Jvm.Term.string "ConfinementAnalyzer$Text" 90) "java/lang/String" "coder" "B") (Jvm.Term.int 0)) (by decide +kernel)
    | 1, _ => exact hs (Jvm.Cond.eq (Jvm.Term.field (Jvm.Term.string "ConfinementAnalyzer$Text" 96) "java/lang/String" "coder" "B") (Jvm.Term.int 0)) (by decide +kernel)
    | 2, _ => exact hs (Jvm.Cond.eq (Jvm.Term.field (Jvm.Term.string "ConfinementAnalyzer$Text" 98) "java/lang/String" "coder" "B") (Jvm.Term.int 0)) (by decide +kernel)
    | 3, _ => exact hs (Jvm.Cond.eq (Jvm.Term.field (Jvm.Term.string "ConfinementAnalyzer$Text" 100) "java/lang/String" "coder" "B") (Jvm.Term.int 0)) (by decide +kernel)
    | 4, _ => exact hs (Jvm.Cond.eq (Jvm.Term.field (Jvm.Term.string "ConfinementAnalyzer$Text" 102) "java/lang/String" "coder" "B") (Jvm.Term.int 0)) (by decide +kernel)
    | i + 5, h => exact absurd h (by omega)
  · intro i hi
    match i, hi with
    | 0, _ => exact hs (Jvm.Cond.arrayOf (Jvm.Term.field (Jvm.Term.string "ConfinementAnalyzer$Text" 90) "java/lang/String" "value" "[B") .byte) (by decide +kernel)
    | 1, _ => exact hs (Jvm.Cond.arrayOf (Jvm.Term.field (Jvm.Term.string "ConfinementAnalyzer$Text" 96) "java/lang/String" "value" "[B") .byte) (by decide +kernel)
    | 2, _ => exact hs (Jvm.Cond.arrayOf (Jvm.Term.field (Jvm.Term.string "ConfinementAnalyzer$Text" 98) "java/lang/String" "value" "[B") .byte) (by decide +kernel)
    | 3, _ => exact hs (Jvm.Cond.arrayOf (Jvm.Term.field (Jvm.Term.string "ConfinementAnalyzer$Text" 100) "java/lang/String" "value" "[B") .byte) (by decide +kernel)
    | 4, _ => exact hs (Jvm.Cond.arrayOf (Jvm.Term.field (Jvm.Term.string "ConfinementAnalyzer$Text" 102) "java/lang/String" "value" "[B") .byte) (by decide +kernel)
    | i + 5, h => exact absurd h (by omega)
  · intro i hi
    match i, hi with
    | 0, _ => exact hs (Jvm.Cond.eq (Jvm.Term.length (Jvm.Term.field (Jvm.Term.string "ConfinementAnalyzer$Text" 90) "java/lang/String" "value" "[B")) (Jvm.Term.int 5)) (by decide +kernel)
    | 1, _ => exact hs (Jvm.Cond.eq (Jvm.Term.length (Jvm.Term.field (Jvm.Term.string "ConfinementAnalyzer$Text" 96) "java/lang/String" "value" "[B")) (Jvm.Term.int 3)) (by decide +kernel)
    | 2, _ => exact hs (Jvm.Cond.eq (Jvm.Term.length (Jvm.Term.field (Jvm.Term.string "ConfinementAnalyzer$Text" 98) "java/lang/String" "value" "[B")) (Jvm.Term.int 3)) (by decide +kernel)
    | 3, _ => exact hs (Jvm.Cond.eq (Jvm.Term.length (Jvm.Term.field (Jvm.Term.string "ConfinementAnalyzer$Text" 100) "java/lang/String" "value" "[B")) (Jvm.Term.int 7)) (by decide +kernel)
    | 4, _ => exact hs (Jvm.Cond.eq (Jvm.Term.length (Jvm.Term.field (Jvm.Term.string "ConfinementAnalyzer$Text" 102) "java/lang/String" "value" "[B")) (Jvm.Term.int 4)) (by decide +kernel)
    | i + 5, h => exact absurd h (by omega)
  · intro i hi j hj
    match i, hi, j, hj with
    | 0, _, 0, _ => exact hs (Jvm.Cond.eq (Jvm.Term.elem (Jvm.Term.field (Jvm.Term.string "ConfinementAnalyzer$Text" 90) "java/lang/String" "value" "[B") (Jvm.Term.int 0)) (Jvm.Term.int 97)) (by decide +kernel)
    | 0, _, 1, _ => exact hs (Jvm.Cond.eq (Jvm.Term.elem (Jvm.Term.field (Jvm.Term.string "ConfinementAnalyzer$Text" 90) "java/lang/String" "value" "[B") (Jvm.Term.int 1)) (Jvm.Term.int 103)) (by decide +kernel)
    | 0, _, 2, _ => exact hs (Jvm.Cond.eq (Jvm.Term.elem (Jvm.Term.field (Jvm.Term.string "ConfinementAnalyzer$Text" 90) "java/lang/String" "value" "[B") (Jvm.Term.int 2)) (Jvm.Term.int 101)) (by decide +kernel)
    | 0, _, 3, _ => exact hs (Jvm.Cond.eq (Jvm.Term.elem (Jvm.Term.field (Jvm.Term.string "ConfinementAnalyzer$Text" 90) "java/lang/String" "value" "[B") (Jvm.Term.int 3)) (Jvm.Term.int 110)) (by decide +kernel)
    | 0, _, 4, _ => exact hs (Jvm.Cond.eq (Jvm.Term.elem (Jvm.Term.field (Jvm.Term.string "ConfinementAnalyzer$Text" 90) "java/lang/String" "value" "[B") (Jvm.Term.int 4)) (Jvm.Term.int 116)) (by decide +kernel)
    | 0, _, j + 5, h => exact absurd (show j + 5 < 5 from h) (by omega)
    | 1, _, 0, _ => exact hs (Jvm.Cond.eq (Jvm.Term.elem (Jvm.Term.field (Jvm.Term.string "ConfinementAnalyzer$Text" 96) "java/lang/String" "value" "[B") (Jvm.Term.int 0)) (Jvm.Term.int 98)) (by decide +kernel)
    | 1, _, 1, _ => exact hs (Jvm.Cond.eq (Jvm.Term.elem (Jvm.Term.field (Jvm.Term.string "ConfinementAnalyzer$Text" 96) "java/lang/String" "value" "[B") (Jvm.Term.int 1)) (Jvm.Term.int 111)) (by decide +kernel)
    | 1, _, 2, _ => exact hs (Jvm.Cond.eq (Jvm.Term.elem (Jvm.Term.field (Jvm.Term.string "ConfinementAnalyzer$Text" 96) "java/lang/String" "value" "[B") (Jvm.Term.int 2)) (Jvm.Term.int 120)) (by decide +kernel)
    | 1, _, j + 3, h => exact absurd (show j + 3 < 3 from h) (by omega)
    | 2, _, 0, _ => exact hs (Jvm.Cond.eq (Jvm.Term.elem (Jvm.Term.field (Jvm.Term.string "ConfinementAnalyzer$Text" 98) "java/lang/String" "value" "[B") (Jvm.Term.int 0)) (Jvm.Term.int 107)) (by decide +kernel)
    | 2, _, 1, _ => exact hs (Jvm.Cond.eq (Jvm.Term.elem (Jvm.Term.field (Jvm.Term.string "ConfinementAnalyzer$Text" 98) "java/lang/String" "value" "[B") (Jvm.Term.int 1)) (Jvm.Term.int 101)) (by decide +kernel)
    | 2, _, 2, _ => exact hs (Jvm.Cond.eq (Jvm.Term.elem (Jvm.Term.field (Jvm.Term.string "ConfinementAnalyzer$Text" 98) "java/lang/String" "value" "[B") (Jvm.Term.int 2)) (Jvm.Term.int 121)) (by decide +kernel)
    | 2, _, j + 3, h => exact absurd (show j + 3 < 3 from h) (by omega)
    | 3, _, 0, _ => exact hs (Jvm.Cond.eq (Jvm.Term.elem (Jvm.Term.field (Jvm.Term.string "ConfinementAnalyzer$Text" 100) "java/lang/String" "value" "[B") (Jvm.Term.int 0)) (Jvm.Term.int 102)) (by decide +kernel)
    | 3, _, 1, _ => exact hs (Jvm.Cond.eq (Jvm.Term.elem (Jvm.Term.field (Jvm.Term.string "ConfinementAnalyzer$Text" 100) "java/lang/String" "value" "[B") (Jvm.Term.int 1)) (Jvm.Term.int 97)) (by decide +kernel)
    | 3, _, 2, _ => exact hs (Jvm.Cond.eq (Jvm.Term.elem (Jvm.Term.field (Jvm.Term.string "ConfinementAnalyzer$Text" 100) "java/lang/String" "value" "[B") (Jvm.Term.int 2)) (Jvm.Term.int 99)) (by decide +kernel)
    | 3, _, 3, _ => exact hs (Jvm.Cond.eq (Jvm.Term.elem (Jvm.Term.field (Jvm.Term.string "ConfinementAnalyzer$Text" 100) "java/lang/String" "value" "[B") (Jvm.Term.int 3)) (Jvm.Term.int 116)) (by decide +kernel)
    | 3, _, 4, _ => exact hs (Jvm.Cond.eq (Jvm.Term.elem (Jvm.Term.field (Jvm.Term.string "ConfinementAnalyzer$Text" 100) "java/lang/String" "value" "[B") (Jvm.Term.int 4)) (Jvm.Term.int 111)) (by decide +kernel)
    | 3, _, 5, _ => exact hs (Jvm.Cond.eq (Jvm.Term.elem (Jvm.Term.field (Jvm.Term.string "ConfinementAnalyzer$Text" 100) "java/lang/String" "value" "[B") (Jvm.Term.int 5)) (Jvm.Term.int 114)) (by decide +kernel)
    | 3, _, 6, _ => exact hs (Jvm.Cond.eq (Jvm.Term.elem (Jvm.Term.field (Jvm.Term.string "ConfinementAnalyzer$Text" 100) "java/lang/String" "value" "[B") (Jvm.Term.int 6)) (Jvm.Term.int 121)) (by decide +kernel)
    | 3, _, j + 7, h => exact absurd (show j + 7 < 7 from h) (by omega)
    | 4, _, 0, _ => exact hs (Jvm.Cond.eq (Jvm.Term.elem (Jvm.Term.field (Jvm.Term.string "ConfinementAnalyzer$Text" 102) "java/lang/String" "value" "[B") (Jvm.Term.int 0)) (Jvm.Term.int 104)) (by decide +kernel)
    | 4, _, 1, _ => exact hs (Jvm.Cond.eq (Jvm.Term.elem (Jvm.Term.field (Jvm.Term.string "ConfinementAnalyzer$Text" 102) "java/lang/String" "value" "[B") (Jvm.Term.int 1)) (Jvm.Term.int 111)) (by decide +kernel)
    | 4, _, 2, _ => exact hs (Jvm.Cond.eq (Jvm.Term.elem (Jvm.Term.field (Jvm.Term.string "ConfinementAnalyzer$Text" 102) "java/lang/String" "value" "[B") (Jvm.Term.int 2)) (Jvm.Term.int 108)) (by decide +kernel)
    | 4, _, 3, _ => exact hs (Jvm.Cond.eq (Jvm.Term.elem (Jvm.Term.field (Jvm.Term.string "ConfinementAnalyzer$Text" 102) "java/lang/String" "value" "[B") (Jvm.Term.int 3)) (Jvm.Term.int 100)) (by decide +kernel)
    | 4, _, j + 4, h => exact absurd (show j + 4 < 4 from h) (by omega)
    | i + 5, h, _, _ => exact absurd h (by omega)
  · intro i j hi hj hij
    match i, hi, j, hj, hij with
    | 0, _, 0, _, h => exact absurd rfl h
    | 0, _, 1, _, _ => exact Or.inl (hs (Jvm.Cond.not (Jvm.Cond.eq (Jvm.Term.string "ConfinementAnalyzer$Text" 90) (Jvm.Term.string "ConfinementAnalyzer$Text" 96))) (by decide +kernel))
    | 0, _, 2, _, _ => exact Or.inl (hs (Jvm.Cond.not (Jvm.Cond.eq (Jvm.Term.string "ConfinementAnalyzer$Text" 90) (Jvm.Term.string "ConfinementAnalyzer$Text" 98))) (by decide +kernel))
    | 0, _, 3, _, _ => exact Or.inl (hs (Jvm.Cond.not (Jvm.Cond.eq (Jvm.Term.string "ConfinementAnalyzer$Text" 90) (Jvm.Term.string "ConfinementAnalyzer$Text" 100))) (by decide +kernel))
    | 0, _, 4, _, _ => exact Or.inl (hs (Jvm.Cond.not (Jvm.Cond.eq (Jvm.Term.string "ConfinementAnalyzer$Text" 90) (Jvm.Term.string "ConfinementAnalyzer$Text" 102))) (by decide +kernel))
    | 0, _, j + 5, h, _ => exact absurd h (by omega)
    | 1, _, 0, _, _ => exact Or.inr (hs (Jvm.Cond.not (Jvm.Cond.eq (Jvm.Term.string "ConfinementAnalyzer$Text" 90) (Jvm.Term.string "ConfinementAnalyzer$Text" 96))) (by decide +kernel))
    | 1, _, 1, _, h => exact absurd rfl h
    | 1, _, 2, _, _ => exact Or.inl (hs (Jvm.Cond.not (Jvm.Cond.eq (Jvm.Term.string "ConfinementAnalyzer$Text" 96) (Jvm.Term.string "ConfinementAnalyzer$Text" 98))) (by decide +kernel))
    | 1, _, 3, _, _ => exact Or.inl (hs (Jvm.Cond.not (Jvm.Cond.eq (Jvm.Term.string "ConfinementAnalyzer$Text" 96) (Jvm.Term.string "ConfinementAnalyzer$Text" 100))) (by decide +kernel))
    | 1, _, 4, _, _ => exact Or.inl (hs (Jvm.Cond.not (Jvm.Cond.eq (Jvm.Term.string "ConfinementAnalyzer$Text" 96) (Jvm.Term.string "ConfinementAnalyzer$Text" 102))) (by decide +kernel))
    | 1, _, j + 5, h, _ => exact absurd h (by omega)
    | 2, _, 0, _, _ => exact Or.inr (hs (Jvm.Cond.not (Jvm.Cond.eq (Jvm.Term.string "ConfinementAnalyzer$Text" 90) (Jvm.Term.string "ConfinementAnalyzer$Text" 98))) (by decide +kernel))
    | 2, _, 1, _, _ => exact Or.inr (hs (Jvm.Cond.not (Jvm.Cond.eq (Jvm.Term.string "ConfinementAnalyzer$Text" 96) (Jvm.Term.string "ConfinementAnalyzer$Text" 98))) (by decide +kernel))
    | 2, _, 2, _, h => exact absurd rfl h
    | 2, _, 3, _, _ => exact Or.inl (hs (Jvm.Cond.not (Jvm.Cond.eq (Jvm.Term.string "ConfinementAnalyzer$Text" 98) (Jvm.Term.string "ConfinementAnalyzer$Text" 100))) (by decide +kernel))
    | 2, _, 4, _, _ => exact Or.inl (hs (Jvm.Cond.not (Jvm.Cond.eq (Jvm.Term.string "ConfinementAnalyzer$Text" 98) (Jvm.Term.string "ConfinementAnalyzer$Text" 102))) (by decide +kernel))
    | 2, _, j + 5, h, _ => exact absurd h (by omega)
    | 3, _, 0, _, _ => exact Or.inr (hs (Jvm.Cond.not (Jvm.Cond.eq (Jvm.Term.string "ConfinementAnalyzer$Text" 90) (Jvm.Term.string "ConfinementAnalyzer$Text" 100))) (by decide +kernel))
    | 3, _, 1, _, _ => exact Or.inr (hs (Jvm.Cond.not (Jvm.Cond.eq (Jvm.Term.string "ConfinementAnalyzer$Text" 96) (Jvm.Term.string "ConfinementAnalyzer$Text" 100))) (by decide +kernel))
    | 3, _, 2, _, _ => exact Or.inr (hs (Jvm.Cond.not (Jvm.Cond.eq (Jvm.Term.string "ConfinementAnalyzer$Text" 98) (Jvm.Term.string "ConfinementAnalyzer$Text" 100))) (by decide +kernel))
    | 3, _, 3, _, h => exact absurd rfl h
    | 3, _, 4, _, _ => exact Or.inl (hs (Jvm.Cond.not (Jvm.Cond.eq (Jvm.Term.string "ConfinementAnalyzer$Text" 100) (Jvm.Term.string "ConfinementAnalyzer$Text" 102))) (by decide +kernel))
    | 3, _, j + 5, h, _ => exact absurd h (by omega)
    | 4, _, 0, _, _ => exact Or.inr (hs (Jvm.Cond.not (Jvm.Cond.eq (Jvm.Term.string "ConfinementAnalyzer$Text" 90) (Jvm.Term.string "ConfinementAnalyzer$Text" 102))) (by decide +kernel))
    | 4, _, 1, _, _ => exact Or.inr (hs (Jvm.Cond.not (Jvm.Cond.eq (Jvm.Term.string "ConfinementAnalyzer$Text" 96) (Jvm.Term.string "ConfinementAnalyzer$Text" 102))) (by decide +kernel))
    | 4, _, 2, _, _ => exact Or.inr (hs (Jvm.Cond.not (Jvm.Cond.eq (Jvm.Term.string "ConfinementAnalyzer$Text" 98) (Jvm.Term.string "ConfinementAnalyzer$Text" 102))) (by decide +kernel))
    | 4, _, 3, _, _ => exact Or.inr (hs (Jvm.Cond.not (Jvm.Cond.eq (Jvm.Term.string "ConfinementAnalyzer$Text" 100) (Jvm.Term.string "ConfinementAnalyzer$Text" 102))) (by decide +kernel))
    | 4, _, 4, _, h => exact absurd rfl h
    | 4, _, j + 5, h, _ => exact absurd h (by omega)
    | i + 5, h, _, _, _ => exact absurd h (by omega)
theorem nest_ok {args : Array Value} {s : State} (hts : ∀ w ∈ lw_tbl, w.before args s = true) : NWok s nestL := by
  intro q hq
  obtain ⟨w, h1, h2⟩ := List.mem_filterMap.mp hq
  cases w with
  | methodLinkNest a i y h =>
    cases h2
    exact va_Nw.of rfl (hts _ h1)
  | _ => cases h2
theorem cls_ok {args : Array Value} {s : State} (ht : ∀ w ∈ GW, w.before args s = true) : ∃ (dC : Nat → ClassId) (dI : Nat → Nat → Nat), ∀ (k : Nat) (q : vw_C), vwCl[k]? = some q → u_Kn s q.1 q.2.1 q.2.2 (dC k) (dI k) := by
  obtain ⟨c0, s0, h0⟩ := u_known (C := RX0) (T := TX0) (N := 11) (n := 11) ht inG0 (ht _ (gw_of 254 (by decide +kernel) (by decide +kernel)))
  obtain ⟨c1, s1, h1⟩ := u_known (C := RX1) (T := TX1) (N := 2) (n := 2) ht inG1 (ht _ (gw_of 299 (by decide +kernel) (by decide +kernel)))
  obtain ⟨c2, s2, h2⟩ := u_known (C := RX2) (T := TX2) (N := 3) (n := 3) ht inG2 (ht _ (gw_of 173 (by decide +kernel) (by decide +kernel)))
  obtain ⟨c3, s3, h3⟩ := u_known (C := RX3) (T := TX3) (N := 12) (n := 12) ht inG3 (ht _ (gw_of 193 (by decide +kernel) (by decide +kernel)))
  obtain ⟨c4, s4, h4⟩ := u_known (C := RX4) (T := TX4) (N := 12) (n := 12) ht inG4 (ht _ (gw_of 117 (by decide +kernel) (by decide +kernel)))
  obtain ⟨c5, s5, h5⟩ := u_known (C := RX5) (T := TX5) (N := 6) (n := 6) ht inG5 (ht _ (gw_of 89 (by decide +kernel) (by decide +kernel)))
  obtain ⟨c6, s6, h6⟩ := u_known (C := RX6) (T := TX6) (N := 9) (n := 9) ht inG6 (ht _ (gw_of 81 (by decide +kernel) (by decide +kernel)))
  obtain ⟨c7, s7, h7⟩ := u_known (C := RX7) (T := TX7) (N := 17) (n := 17) ht inG7 (ht _ (gw_of 798 (by decide +kernel) (by decide +kernel)))
  refine ⟨fun k => [c0, c1, c2, c3, c4, c5, c6, c7].getD k c0, fun k => [s0, s1, s2, s3, s4, s5, s6, s7].getD k s0, fun k q hq => ?_⟩
  match k, hq with
  | 0, hq => cases hq; exact h0
  | 1, hq => cases hq; exact h1
  | 2, hq => cases hq; exact h2
  | 3, hq => cases hq; exact h3
  | 4, hq => cases hq; exact h4
  | 5, hq => cases hq; exact h5
  | 6, hq => cases hq; exact h6
  | 7, hq => cases hq; exact h7
  | k + 8, hq => exact absurd (List.getElem?_eq_some_iff.mp hq).1 (by show ¬ k + 8 < 8; omega)
theorem arr_ok {args : Array Value} {s : State} {D : va_G} (ht : ∀ w ∈ GW, w.before args s = true) (hts : ∀ w ∈ lw_tbl, w.before args s = true) (hk : ∀ (k : Nat) (q : vw_C), vwCl[k]? = some q → u_Kn s q.1 q.2.1 q.2.2 (D.1 k) (D.2 k)) : ∃ cA : Nat → ClassId, KcT D cA s := by
  obtain ⟨c0, k0, p0, a1, a2, a3⟩ := Cond.arrayClass_spec (ht _ gw_arrI)
  obtain ⟨c1, k1, p1, b1, b2, b3⟩ := Cond.arrayClass_spec (ht _ gw_arrZ)
  have hov : (Cond.arrayOver (.object "ConfinementAnalyzer$State")).before args s = true := hts _ (List.mem_of_getElem? (i := 179) (by decide +kernel))
  obtain ⟨p2, c2, k2, d1, d2, d3, d4, d5⟩ := Cond.arrayOver_spec hov
  refine ⟨fun t => [c0, c1, c2].getD t c0, ⟨hk, fun k q hq => ?_⟩, nest_ok hts, va_AO.of hov⟩
  match k, hq with
  | 0, hq =>
    cases hq
    exact ⟨fun n z => ⟨fun k h => (by cases h), k0, a2, p0, a3⟩, a1⟩
  | 1, hq =>
    cases hq
    exact ⟨fun n z => ⟨fun k h => (by cases h), k1, b2, p1, b3⟩, b1⟩
  | 2, hq =>
    cases hq
    exact ⟨fun n z => ⟨fun k h => (by cases h), k2, d3, p2, d4⟩, k2, p2, d3, d4, d1, d5⟩
  | k + 3, hq => exact absurd (List.getElem?_eq_some_iff.mp hq).1 (by show ¬ k + 3 < 3; omega)
theorem sref_ok {args : Array Value} {s : State} {adK : Nat → Nat} (hts : ∀ w ∈ lw_tbl, w.before args s = true) (he : ∀ i : Nat, i < 5 → (tmS i).eval args s none [] s = some (.ref (adK i))) : ∀ i q, sIdx[i]? = some q → vk_R RX5 q.1 q.2 (adK i) s := by
  intro i q hq
  match i, hq with
  | 0, hq =>
    cases hq
    exact vk_R.of (hts (.stringRef "ConfinementAnalyzer$Text" 90 "agent") (List.mem_of_getElem? (i := 378) (by decide +kernel))) (he 0 (by decide))
  | 1, hq =>
    cases hq
    exact vk_R.of (hts (.stringRef "ConfinementAnalyzer$Text" 96 "box") (List.mem_of_getElem? (i := 431) (by decide +kernel))) (he 1 (by decide))
  | 2, hq =>
    cases hq
    exact vk_R.of (hts (.stringRef "ConfinementAnalyzer$Text" 98 "key") (List.mem_of_getElem? (i := 432) (by decide +kernel))) (he 2 (by decide))
  | 3, hq =>
    cases hq
    exact vk_R.of (hts (.stringRef "ConfinementAnalyzer$Text" 100 "factory") (List.mem_of_getElem? (i := 433) (by decide +kernel))) (he 3 (by decide))
  | 4, hq =>
    cases hq
    exact vk_R.of (hts (.stringRef "ConfinementAnalyzer$Text" 102 "hold") (List.mem_of_getElem? (i := 434) (by decide +kernel))) (he 4 (by decide))
  | i + 5, hq => exact absurd (List.getElem?_eq_some_iff.mp hq).1 (by show ¬ i + 5 < 5; omega)
set_option maxHeartbeats 4000000 in
set_option maxRecDepth 100000 in
/-- the law, from its entry -/
theorem whole_start {p : Program} {e : Env} {s : State} {m : MethodId} {below : List Frame} {meth : Method} {c : Code} (l : Launch) (hflags : l.flags = flags0) {b L : Nat} {xs : Nat → Int32} (hL : L ≤ 2048) (C0 : lw_At p s m meth c b L xs) : W p l e room_1 s m #[Value.ref b] below meth c s.heap [] 0 0 (lw_Z below #[Value.ref b] s) (entryFrame m ([Value.ref b] : List Value).toArray 4) := by
  obtain ⟨hx, hb, hr, hml, hown, hts, hX, hbl, hlocks, hgv⟩ := id C0
  have hA : ∀ q : Nat, s.heap.size ≤ q → (fun q : Nat => s.heap.size ≤ q) q := fun _ h => h
  have hnA : ∀ a : Nat, a < s.heap.size → ¬ (fun q : Nat => s.heap.size ≤ q) a := fun a h => Nat.not_le.mpr h
  have ht : ∀ w ∈ GW, w.before #[Value.ref b] s = true := fun w h => hts w (List.mem_filter.mp h).1
  have hown' : s.vm.findClass RL = some m.cls := hown
  have hflat := flat_of_before _ hgv
  obtain ⟨dC, dI, hkn⟩ := cls_ok ht
  obtain ⟨cA, hK⟩ := arr_ok (D := (dC, dI)) ht hts hkn
  obtain ⟨adK, adV, hstr, hev⟩ := str_ok hgv
  have hZ1 : va_Z "java/lang/String" "COMPACT_STRINGS" "Z" (.int 1) (fun q : Nat => s.heap.size ≤ q) s s.heap := va_Zof (hts _ (List.mem_of_getElem? (i := 392) (by decide +kernel))) (hts _ (List.mem_of_getElem? (i := 73) (by decide +kernel))) (va_eqi (hflat (Jvm.Cond.eq (Jvm.Term.static "java/lang/String" "COMPACT_STRINGS" "Z") (Jvm.Term.int 1)) (by decide +kernel))) hnA
  have hZ2 : va_Zq "jdk/internal/util/Preconditions" "SIOOBE_FORMATTER" "Ljava/util/function/BiFunction;" (fun q : Nat => s.heap.size ≤ q) s s.heap := va_Zqof (hts _ (List.mem_of_getElem? (i := 408) (by decide +kernel))) (hts _ (List.mem_of_getElem? (i := 75) (by decide +kernel))) (hflat (Jvm.Cond.isRef (Jvm.Term.static "jdk/internal/util/Preconditions" "SIOOBE_FORMATTER" "Ljava/util/function/BiFunction;")) (by decide +kernel)) hnA
  have hS : va_S (fun q : Nat => s.heap.size ≤ q) s.heap s.heap [] := va_S.rf
  have hP : va_P (dC, dI) vwCl [] s.heap := fun k q h => by simp at h
  have hD : va_D (fun q : Nat => s.heap.size ≤ q) [] := ⟨fun i j p q h => by simp at h, fun k q h => by simp at h⟩
  have hl := lv_entry ([.ref b]) (n := 4) (Nat.le_of_ble_eq_true rfl)
  rw [lg_entry_eq]
  generalize (lg_sl ([.ref b]) ++ List.replicate (4 - (lg_sl ([.ref b])).length) Slot.unset).toArray = ls at hl ⊢
  have hl : lv_has ls 4 [(0, .ref b)] := hl
  refine nb_mkP hx hb hml hl.1 hown' ht hK hP hD hS hA nwL_7 mk_X6 ikX6 lkL_9 ⟨(Nat.le_of_ble_eq_true rfl), (Nat.le_of_ble_eq_true rfl)⟩ ⟨(Nat.le_of_ble_eq_true rfl), (Nat.le_of_ble_eq_true rfl)⟩ (Nat.le_of_ble_eq_true rfl) dL_law_0 dL_law_3 dL_law_4 (fun u H locs hP hD hS => ?_)
  refine lv_astore_n (lv' := [(1, .ref (u.1 0 0)), (0, .ref b)]) hx hb dL_law_7 rfl hl (by decide) rfl (fun ls hl => ?_)
  refine nb_mkP hx hb hml hl.1 hown' ht hK hP hD hS hA nwL_10 mk_X7 ikX7 lkL_12 ⟨(Nat.le_of_ble_eq_true rfl), (Nat.le_of_ble_eq_true rfl)⟩ ⟨(Nat.le_of_ble_eq_true rfl), (Nat.le_of_ble_eq_true rfl)⟩ (Nat.le_of_ble_eq_true rfl) dL_law_8 dL_law_11 dL_law_12 (fun q H locs hP hD hS => ?_)
  have hP : va_P (dC, dI) vwCl (wAn cA u ++ wMod cA q) H := hP
  have hD : va_D (fun q : Nat => s.heap.size ≤ q) (wAn cA u ++ wMod cA q) := hD
  refine lv_astore_n (lv' := [(2, .ref (q 0)), (1, .ref (u.1 0 0)), (0, .ref b)]) hx hb dL_law_15 rfl hl (by decide) rfl (fun ls hl => ?_)
  refine lv_iconst (v := 0) hx hb dL_law_16 (by decide) ?_
  refine lv_istore_n (lv' := [(3, .int 0), (2, .ref (q 0)), (1, .ref (u.1 0 0)), (0, .ref b)]) hx hb dL_law_17 rfl hl (by decide) rfl (fun ls hl => ?_)
  refine W.widen (k := 104) (n := 2677) (Nat.le_of_ble_eq_true rfl) (Nat.le_of_ble_eq_true rfl) ?_
  have hnew : ∀ k, k < 104 → s.heap.size ≤ (mkG l (dC, dI) cA u q adK adV).2.2.2.1 k := fun k hk => hD.2 _ _ (wl_at (l := l) (D := (dC, dI)) (adK := adK) (adV := adV) hk)
  have hfr : ∀ q', fr (mkG l (dC, dI) cA u q adK adV) q' → (fun q : Nat => s.heap.size ≤ q) q' := fun q' ⟨k, k1, k2⟩ => by rw [k2]; exact hnew k k1
  have hT : Tb (mkG l (dC, dI) cA u q adK adV) s s.heap := by
    refine ⟨hK.1, hK.2.1, ⟨hstr.narrow hfr, sref_ok hts hev, hZ1.narrow hfr, hZ2.narrow hfr, ?_, ?_⟩, ?_⟩
    · intro i hi
      show adf u q adK adV (200 + i) = adK i
      unfold adf
      rw [if_neg (by omega), if_pos (by omega), show 200 + i - 200 = i by omega]
    · intro i hi
      show adf u q adK adV (300 + i) = adV i
      unfold adf
      rw [if_neg (by omega), if_neg (by omega), show 300 + i - 300 = i by omega]
    · intro i j hi hj hij
      exact pl_inj i hi j hj (hD.1 _ _ _ _ (wl_at (l := l) (D := (dC, dI)) (adK := adK) (adV := adV) hi) (wl_at (l := l) (D := (dC, dI)) (adK := adK) (adV := adV) hj) hij)
  exact law_loop (Γ := mkG l (dC, dI) cA u q adK adV) ⟨C0, hT, hnew⟩ hL (L + 1) 0 (Nat.zero_le L) (by omega) a00 g00 H locs ls ⟨ci_00, mi_00, wa_00, wl_P hP, hS⟩ (lv_sub hl [3, 2, 1, 0] rfl)
