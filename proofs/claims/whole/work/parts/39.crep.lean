/-! The class's smallestRepair. -/
def rpb (s : St) (m : Nat) : Bool := decide (vio s (fnd s m) (s 62) = 0)
theorem rpb_t {s : St} {m : Nat} : rpb s m = true ↔ rp s m := by unfold rpb rp; exact decide_eq_true_iff
theorem sg_X6_isRepair_0 {Γ : Gam} {P : Int32 → Mem → Prop}  (a1 : Int32) {g : Mem} (h : (Runs Γ 3 yX1_start iX1_start [.inr 24, .inr 34, .inl a1] g (fun r1 g1 => (Runs Γ 4 yX1_close iX1_close [.inr 24, .inr 6, .inl 0] g1 (fun r2 g2 => (Runs Γ 2 yX4_countViolations iX4_countViolations [.inr 34, .inr 25] g2 (fun r3 g3 => ((¬ r3 = 0 → P 0 g3) ∧ (r3 = 0 → P 1 g3))))))))) : AW Γ 5 iX6_isRepair P 0 [some (.inr 0), some (.inl a1)] [] g :=
  (aw_aload_n dX6_isRepair_0 rfl (aw_getr 24 fkX6_54 fa_0_7 dX6_isRepair_1 (aw_aload_n dX6_isRepair_4 rfl (aw_getr 34 fkX6_19 fa_0_1 dX6_isRepair_5 (aw_iload_n dX6_isRepair_8 rfl (aw_callVv lkX6_224 ckX1_start ca_24 rfl (d := 3) (by decide) [.inr 34, .inl a1] rfl rfl (Nat.le_of_ble_eq_true rfl) dX6_isRepair_9 rfl (Runs.mono h (fun r1 g1 h1_ => (aw_aload_n dX6_isRepair_12 rfl (aw_getr 24 fkX6_54 fa_0_7 dX6_isRepair_13 (aw_aload_n dX6_isRepair_16 rfl (aw_getr 6 fkX6_36 fa_0_4 dX6_isRepair_17 (aw_iconst 0 dX6_isRepair_20 (by decide) (aw_callVv lkX6_228 ckX1_close ca_24 rfl (d := 4) (by decide) [.inr 6, .inl 0] rfl rfl (Nat.le_of_ble_eq_true rfl) dX6_isRepair_21 rfl (Runs.mono h1_ (fun r2 g2 h2_ => (aw_aload_n dX6_isRepair_24 rfl (aw_getr 34 fkX6_19 fa_0_1 dX6_isRepair_25 (aw_aload_n dX6_isRepair_28 rfl (aw_getr 24 fkX6_54 fa_0_7 dX6_isRepair_29 (aw_getr 25 fkX6_152 fa_24_0 dX6_isRepair_32 (aw_callVi lkX6_165 ckX4_countViolations (cs_ isSt_34) rfl (d := 2) (by decide) [.inr 25] rfl rfl (Nat.le_of_ble_eq_true rfl) dX6_isRepair_35 rfl (Runs.mono h2_ (fun r3 g3 h3_ => (aw_if_ne 45 dX6_isRepair_38 (by decide) (fun c1 => (aw_iconst 0 dX6_isRepair_45 (by decide) (aw_iret rfl (by decide) dX6_isRepair_46 (h3_.1 c1)))) (fun c1 => (aw_iconst 1 dX6_isRepair_41 (by decide) (aw_goto 46 dX6_isRepair_42 (by decide) (aw_iret rfl (by decide) dX6_isRepair_46 (h3_.2 c1))))))))))))))))))))))))))))))
theorem ct_X6_isRepair {Γ : Gam} {s : St} {g : Mem} {rem : Nat} (h : CW 34 s g) (hR : RolesOk s g) (hrem : rem < 2 ^ 31) : Runs Γ 5 yX6_isRepair iX6_isRepair [.inr 0, .inl (nI rem)] g (fun r g' => r = bi (rpb s rem) ∧ ∀ k, k ≠ 24 → k ≠ 25 → g' k = g k) := by
  have hnq := h.2.nq
  refine Runs.intro (by decide) rfl (Nat.le_of_ble_eq_true rfl) (sg_X6_isRepair_0 _ ?_)
  refine (ct_X1_start (b := 24) (rem := rem) (Or.inr rfl) h hrem).mono (fun _ g1 q1 => ?_)
  obtain ⟨f1, w1⟩ := q1
  have r1 : RolesOk s g1 := hR.ext (fun k k1 k2 => f1 k (by omega))
  refine (ct_X1_close (b := 24) (rem := rem) (m := false) (Or.inr rfl) h.2 r1 w1).mono (fun _ g2 q2 => ?_)
  obtain ⟨f2, E, e1, e2, e3, e4, e5⟩ := q2
  have f3 : ∀ k, k ≠ 24 → k ≠ 25 → g2 k = g k := fun k k1 k2 => by rw [f2 k k1 k2, f1 k k2]
  have h2 : CW 34 s g2 := ⟨h.1.ext (fun k k1 k2 => f3 k (by omega) (by omega)), h.2⟩
  have eE : E = fnd s rem := by
    funext a b
    exact clo_fnd h.2 e3 e4 e5 a b
  rw [eE] at e1
  refine Runs.fn (ct_X4_vio rfl h2 e1) ?_
  have hv := vio_le s (fnd s rem) (s 62)
  rw [show (0 : Int32) = nI 0 from rfl, nI_eq (a := vio s (fnd s rem) (s 62)) (b := 0) (by omega) (by decide)]
  refine ⟨fun c => ⟨?_, f3⟩, fun c => ⟨?_, f3⟩⟩
  · unfold rpb; rw [decide_eq_false c]; rfl
  · unfold rpb; rw [decide_eq_true c]; rfl
theorem rowsK_anti {s : St} {m m' : Nat} (h : ∀ i, m.testBit i = true → m'.testBit i = true) (a b : Nat) : ∀ k, (rowsK s m' k a).testBit b = true → (rowsK s m k a).testBit b = true
  | 0, e => by rw [rowsK] at e ⊢; exact e
  | k + 1, e => by
    have ih := rowsK_anti (s := s) h a b k
    rw [rowsK] at e ⊢
    by_cases c' : m'.testBit k = true
    · rw [if_pos c'] at e
      by_cases c : m.testBit k = true
      · rw [if_pos c]; exact ih e
      · rw [if_neg c]
        split
        · rw [Nat.testBit_or, ih e]; rfl
        · exact ih e
    · have c : ¬ m.testBit k = true := fun z => c' (h k z)
      rw [if_neg c'] at e
      rw [if_neg c]
      split
      · rename_i z
        rw [if_pos z, Nat.testBit_or, Bool.or_eq_true] at e
        rw [Nat.testBit_or, Bool.or_eq_true]
        exact e.imp ih id
      · rename_i z
        rw [if_neg z] at e
        exact ih e
theorem fnd_anti {s : St} (hw : WF s) {m m' : Nat} (h : ∀ i, m.testBit i = true → m'.testBit i = true) : Sb (fnd s m') (fnd s m) := fun _ _ e => fnd_least (fun a b z => ini_fnd (rowsK_anti h a b _ z)) (fnd_cl5 hw m) e
theorem vio_mono {s : St} {E F : Rel} (h : Sb E F) : ∀ k, vio s E k ≤ vio s F k
  | 0 => Nat.le_refl _
  | k + 1 => by
    have ih := vio_mono (s := s) h k
    rw [vio, vio]
    by_cases c : E (s (63 + 2 * k)) (s (63 + 2 * k + 1)) = true
    · rw [if_pos c, if_pos (h _ _ c)]; omega
    · rw [if_neg c]; omega
theorem rp_up {s : St} (hw : WF s) {m m' : Nat} (h : ∀ i, m.testBit i = true → m'.testBit i = true) (hr : rp s m) : rp s m' := by
  unfold rp at hr ⊢
  have := vio_mono (s := s) (fnd_anti hw h) (s 62)
  omega
/-- all references but i -/
def but (s : St) (i : Nat) : Nat := dif (2 ^ s 41 - 1) (2 ^ i)
def ned (s : St) (k : Nat) : Nat := msk (fun i => !rpb s (but s i)) k
theorem all_lt {s : St} (hw : WF s) : 2 ^ s 41 - 1 < 1024 := by
  have h2 : 2 ^ s 41 ≤ 1024 := Nat.pow_le_pow_right (n := 2) (by decide) hw.nr
  omega
/-- a repair has every needed reference -/
theorem ned_sub {s : St} (hw : WF s) {m : Nat} (hm : m < 2 ^ s 41) (hr : rp s m) : m &&& ned s (s 41) = ned s (s 41) := by
  apply Nat.eq_of_testBit_eq
  intro i
  rw [Nat.testBit_and]
  cases e : (ned s (s 41)).testBit i with
  | false => rw [Bool.and_false]
  | true =>
    unfold ned at e
    rw [msk_bit, Bool.and_eq_true, decide_eq_true_eq, Bool.not_eq_true'] at e
    cases e2 : m.testBit i with
    | true => rfl
    | false =>
      have : rp s (but s i) := by
        refine rp_up hw (fun j hj => ?_) hr
        unfold but
        rw [dif_bit (all_lt hw), Nat.testBit_two_pow_sub_one, Nat.testBit_two_pow]
        have hjn : j < s 41 := by
          rcases Nat.lt_or_ge j (s 41) with z | z
          · exact z
          · rw [Nat.testBit_lt_two_pow (Nat.lt_of_lt_of_le hm (Nat.pow_le_pow_right (by decide) z))] at hj; cases hj
        have hji : ¬ i = j := fun z => by rw [z, hj] at e2; cases e2
        rw [decide_eq_true hjn, decide_eq_false hji]; rfl
      rw [rpb_t.mpr this] at e
      cases e.2
theorem pop_top : ∀ m, m < 1024 → ∀ n, n < 11 → m < 2 ^ n → n ≤ pop m 10 → m + 1 = 2 ^ n := by decide +kernel
theorem pop_all : ∀ n, n < 11 → pop (2 ^ n - 1) 10 = n := by decide
theorem sg_X6_findNeeded_0 {Γ : Gam} {P : Int32 → Mem → Prop}  (a1 : Int32) {g : Mem} (h : AW Γ 6 iX6_findNeeded P 4 [some (.inr 0), some (.inl a1), some (.inl 0), some (.inl 0)] [] g) : AW Γ 6 iX6_findNeeded P 0 [some (.inr 0), some (.inl a1)] [] g :=
  (aw_iconst 0 dX6_findNeeded_0 (by decide) (aw_istore_n [some (.inr 0), some (.inl a1), some (.inl 0)] dX6_findNeeded_1 (by decide) rfl (aw_iconst 0 dX6_findNeeded_2 (by decide) (aw_istore_n [some (.inr 0), some (.inl a1), some (.inl 0), some (.inl 0)] dX6_findNeeded_3 (by decide) rfl (aw_mask [true, true, true, true] rfl h)))))
theorem sg_X6_findNeeded_4 {Γ : Gam} {P : Int32 → Mem → Prop}  (a1 a2 a3 : Int32) {g : Mem} (h : (((g 34 5) ≤ a3 → P a2 g) ∧ (¬ ((g 34 5) ≤ a3) → (Runs Γ 5 yX6_isRepair iX6_isRepair [.inr 0, .inl (a1 &&& ((1 <<< (a3 &&& 31)) ^^^ (-1)))] g (fun r1 g1 => ((¬ r1 = 0 → AW Γ 6 iX6_findNeeded P 4 [some (.inr 0), some (.inl a1), some (.inl a2), some (.inl (a3 + 1))] [] g1) ∧ (r1 = 0 → AW Γ 6 iX6_findNeeded P 4 [some (.inr 0), some (.inl a1), some (.inl (a2 ||| (1 <<< (a3 &&& 31)))), some (.inl (a3 + 1))] [] g1))))))) : AW Γ 6 iX6_findNeeded P 4 [some (.inr 0), some (.inl a1), some (.inl a2), some (.inl a3)] [] g :=
  (aw_iload_n dX6_findNeeded_4 rfl (aw_aload_n dX6_findNeeded_5 rfl (aw_getr 34 fkX6_19 fa_0_1 dX6_findNeeded_6 (aw_geti fkX6_109 (fs_5 isSt_34) dX6_findNeeded_9 (aw_icmp_ge 43 dX6_findNeeded_12 (by decide) (fun c1 => (aw_iload_n dX6_findNeeded_43 rfl (aw_iret rfl (vp_nar_int _) dX6_findNeeded_44 (h.1 c1)))) (fun c1 => (aw_aload_n dX6_findNeeded_15 rfl (aw_iload_n dX6_findNeeded_16 rfl (aw_iload_n dX6_findNeeded_17 rfl (aw_callSi lkX6_186 ckX6_bit (d := 1) (by decide) [.inl a3] rfl rfl (Nat.le_of_ble_eq_true rfl) dX6_findNeeded_18 rfl (Runs.fn ct_X6_bit (aw_iconst (-1) dX6_findNeeded_21 (by decide) (aw_ixor dX6_findNeeded_22 (aw_iand dX6_findNeeded_23 (aw_callVi lkX6_177 ckX6_isRepair ca_0 rfl (d := 5) (by decide) [.inl (a1 &&& ((1 <<< (a3 &&& 31)) ^^^ (-1)))] rfl rfl (Nat.le_of_ble_eq_true rfl) dX6_findNeeded_24 rfl (Runs.mono (h.2 c1) (fun r1 g1 h1_ => (aw_if_ne 37 dX6_findNeeded_27 (by decide) (fun c2 => (aw_iinc (a3 + 1) [some (.inr 0), some (.inl a1), some (.inl a2), some (.inl (a3 + 1))] dX6_findNeeded_37 rfl (by rfl) (by decide) rfl (aw_goto 4 dX6_findNeeded_40 (by decide) (aw_mask [true, true, true, true] rfl (h1_.1 c2))))) (fun c2 => (aw_iload_n dX6_findNeeded_30 rfl (aw_iload_n dX6_findNeeded_31 rfl (aw_callSi lkX6_186 ckX6_bit (d := 1) (by decide) [.inl a3] rfl rfl (Nat.le_of_ble_eq_true rfl) dX6_findNeeded_32 rfl (Runs.fn ct_X6_bit (aw_ior dX6_findNeeded_35 (aw_istore_n [some (.inr 0), some (.inl a1), some (.inl (a2 ||| (1 <<< (a3 &&& 31)))), some (.inl a3)] dX6_findNeeded_36 (by decide) rfl (aw_iinc (a3 + 1) [some (.inr 0), some (.inl a1), some (.inl (a2 ||| (1 <<< (a3 &&& 31)))), some (.inl (a3 + 1))] dX6_findNeeded_37 rfl (by rfl) (by decide) rfl (aw_goto 4 dX6_findNeeded_40 (by decide) (aw_mask [true, true, true, true] rfl (h1_.2 c2)))))))))))))))))))))))))))))
theorem lp_X6_need {Γ : Gam} {P : Int32 → Mem → Prop} {s : St} {g0 : Mem} (h : CW 34 s g0) (hR : RolesOk s g0) (hP : ∀ g, (∀ k, k ≠ 24 → k ≠ 25 → g k = g0 k) → P (nI (ned s (s 41))) g) : ∀ n i g, i + n = s 41 → (∀ k, k ≠ 24 → k ≠ 25 → g k = g0 k) → AW Γ 6 iX6_findNeeded P 4 [some (.inr 0), some (.inl (nI (2 ^ s 41 - 1))), some (.inl (nI (ned s i))), some (.inl (nI i))] [] g := by
  intro n
  have hnr := h.2.nr
  have hal := all_lt h.2
  induction n with
  | zero =>
    intro i g hi hf
    have h1 : CW 34 s g := ⟨h.1.ext (fun k k1 k2 => hf k (by omega) (by omega)), h.2⟩
    refine sg_X6_findNeeded_4 _ _ _ ?_
    rw [show g 34 5 = nI (s 41) from h1.1.2.2.2.2.2.1]
    rw [show i = s 41 by omega]
    exact ⟨fun _ => hP g hf, fun c => absurd (nI_le (by omega) (by omega)) c⟩
  | succ n ih =>
    intro i g hi hf
    have h1 : CW 34 s g := ⟨h.1.ext (fun k k1 k2 => hf k (by omega) (by omega)), h.2⟩
    have hR1 : RolesOk s g := hR.ext (fun k k1 k2 => hf k (by omega) (by omega))
    refine sg_X6_findNeeded_4 _ _ _ ?_
    have hb : but s i < 1024 := dif_lt hal
    have e : nI (2 ^ s 41 - 1) &&& ((1 <<< (nI i &&& 31)) ^^^ (-1)) = nI (but s i) := by rw [bit_nI (by omega), andn_nI hal]; rfl
    rw [show g 34 5 = nI (s 41) from h1.1.2.2.2.2.2.1, e, nI_1]
    refine ⟨fun c => absurd c (nI_ge (by omega) (by omega)), fun _ => ?_⟩
    refine (ct_X6_isRepair h1 hR1 (by omega)).mono (fun r g1 q => ?_)
    obtain ⟨rfl, q2⟩ := q
    have hih := ih (i + 1) g1 (by omega) (fun k k1 k2 => by rw [q2 k k1 k2, hf k k1 k2])
    refine ⟨fun c => ?_, fun c => ?_⟩
    · have eN : ned s (i + 1) = ned s i := or0 (p := fun i => !rpb s (but s i)) (by rw [bi_ne0.mp c]; rfl)
      rw [eN] at hih
      exact hih
    · have eN : nI (ned s i) ||| (1 <<< (nI i &&& 31)) = nI (ned s (i + 1)) := or1 (p := fun i => !rpb s (but s i)) (by omega) (by rw [bi_eq0.mp c]; rfl)
      rw [eN]
      exact hih
theorem ct_X6_findNeeded {Γ : Gam} {s : St} {g : Mem} (h : CW 34 s g) (hR : RolesOk s g) : Runs Γ 6 yX6_findNeeded iX6_findNeeded [.inr 0, .inl (nI (2 ^ s 41 - 1))] g (fun r g' => r = nI (ned s (s 41)) ∧ ∀ k, k ≠ 24 → k ≠ 25 → g' k = g k) :=
  Runs.intro (by decide) rfl (Nat.le_of_ble_eq_true rfl) (sg_X6_findNeeded_0 _ (lp_X6_need h hR (fun g1 f => ⟨rfl, f⟩) (s 41) 0 g (by omega) (fun _ _ _ => rfl)))
theorem sg_X6_smallestRepair_0 {Γ : Gam} {P : Int32 → Mem → Prop}  {g : Mem} (h : (Runs Γ 6 yX6_refreshAnalysis iX6_refreshAnalysis [.inr 0] g (fun r1 g1 => (Runs Γ 6 yX6_findNeeded iX6_findNeeded [.inr 0, .inl ((1 <<< ((g1 34 5) &&& 31)) - 1)] g1 (fun r2 g2 => AW Γ 7 iX6_smallestRepair P 24 [some (.inr 0), some (.inl ((1 <<< ((g1 34 5) &&& 31)) - 1)), some (.inl r2), some (.inl 0)] [] g2))))) : AW Γ 7 iX6_smallestRepair P 0 [some (.inr 0)] [] g :=
  (aw_aload_n dX6_smallestRepair_0 rfl (aw_callVv lkX6_123 ckX6_refreshAnalysis ca_0 rfl (d := 6) (by decide) [] rfl rfl (Nat.le_of_ble_eq_true rfl) dX6_smallestRepair_1 rfl (Runs.mono h (fun r1 g1 h1_ => (aw_iconst 1 dX6_smallestRepair_4 (by decide) (aw_aload_n dX6_smallestRepair_5 rfl (aw_getr 34 fkX6_19 fa_0_1 dX6_smallestRepair_6 (aw_geti fkX6_109 (fs_5 isSt_34) dX6_smallestRepair_9 (aw_ishl dX6_smallestRepair_12 (aw_iconst 1 dX6_smallestRepair_13 (by decide) (aw_isub dX6_smallestRepair_14 (aw_istore_n [some (.inr 0), some (.inl ((1 <<< ((g1 34 5) &&& 31)) - 1))] dX6_smallestRepair_15 (by decide) rfl (aw_aload_n dX6_smallestRepair_16 rfl (aw_iload_n dX6_smallestRepair_17 rfl (aw_callVi lkX6_169 ckX6_findNeeded ca_0 rfl (d := 6) (by decide) [.inl ((1 <<< ((g1 34 5) &&& 31)) - 1)] rfl rfl (Nat.le_of_ble_eq_true rfl) dX6_smallestRepair_18 rfl (Runs.mono h1_ (fun r2 g2 h2_ => (aw_istore_n [some (.inr 0), some (.inl ((1 <<< ((g1 34 5) &&& 31)) - 1)), some (.inl r2)] dX6_smallestRepair_21 (by decide) rfl (aw_iconst 0 dX6_smallestRepair_22 (by decide) (aw_istore_n [some (.inr 0), some (.inl ((1 <<< ((g1 34 5) &&& 31)) - 1)), some (.inl r2), some (.inl 0)] dX6_smallestRepair_23 (by decide) rfl (aw_mask [true, true, true, true] rfl h2_)))))))))))))))))))))
theorem sg_X6_smallestRepair_24 {Γ : Gam} {P : Int32 → Mem → Prop}  (a1 a2 a3 : Int32) {g : Mem} (h : (((g 34 5) ≤ a3 → P a1 g) ∧ (¬ ((g 34 5) ≤ a3) → AW Γ 7 iX6_smallestRepair P 38 [some (.inr 0), some (.inl a1), some (.inl a2), some (.inl a3), some (.inl 0)] [] g))) : AW Γ 7 iX6_smallestRepair P 24 [some (.inr 0), some (.inl a1), some (.inl a2), some (.inl a3)] [] g :=
  (aw_iload_n dX6_smallestRepair_24 rfl (aw_aload_n dX6_smallestRepair_25 rfl (aw_getr 34 fkX6_19 fa_0_1 dX6_smallestRepair_26 (aw_geti fkX6_109 (fs_5 isSt_34) dX6_smallestRepair_29 (aw_icmp_ge 97 dX6_smallestRepair_32 (by decide) (fun c1 => (aw_iload_n dX6_smallestRepair_97 rfl (aw_iret rfl (vp_nar_int _) dX6_smallestRepair_98 (h.1 c1)))) (fun c1 => (aw_iconst 0 dX6_smallestRepair_35 (by decide) (aw_istore [some (.inr 0), some (.inl a1), some (.inl a2), some (.inl a3), some (.inl 0)] dX6_smallestRepair_36 (by decide) rfl (aw_mask [true, true, true, true, true] rfl (h.2 c1))))))))))
theorem sg_X6_smallestRepair_38 {Γ : Gam} {P : Int32 → Mem → Prop}  (a1 a2 a3 a4 : Int32) {g : Mem} (h : ((a1 ≤ a4 → AW Γ 7 iX6_smallestRepair P 24 [some (.inr 0), some (.inl a1), some (.inl a2), some (.inl (a3 + 1))] [] g) ∧ (¬ (a1 ≤ a4) → ((¬ (bcI a4) = a3 → AW Γ 7 iX6_smallestRepair P 65 [some (.inr 0), some (.inl a1), some (.inl a2), some (.inl a3), some (.inl a4)] [] g) ∧ ((bcI a4) = a3 → ((¬ (a4 &&& a2) = a2 → AW Γ 7 iX6_smallestRepair P 65 [some (.inr 0), some (.inl a1), some (.inl a2), some (.inl a3), some (.inl a4)] [] g) ∧ ((a4 &&& a2) = a2 → AW Γ 7 iX6_smallestRepair P 66 [some (.inr 0), some (.inl a1), some (.inl a2), some (.inl a3), some (.inl a4)] [.inl 1] g))))))) : AW Γ 7 iX6_smallestRepair P 38 [some (.inr 0), some (.inl a1), some (.inl a2), some (.inl a3), some (.inl a4)] [] g :=
  (aw_iload dX6_smallestRepair_38 rfl (aw_iload_n dX6_smallestRepair_40 rfl (aw_icmp_ge 91 dX6_smallestRepair_41 (by decide) (fun c1 => (aw_iinc (a3 + 1) [some (.inr 0), some (.inl a1), some (.inl a2), some (.inl (a3 + 1)), some (.inl a4)] dX6_smallestRepair_91 rfl (by rfl) (by decide) rfl (aw_goto 24 dX6_smallestRepair_94 (by decide) (aw_mask [true, true, true, true] rfl (h.1 c1))))) (fun c1 => (aw_iload dX6_smallestRepair_44 rfl (aw_callSi lkX6_172 ckJ6_bitCount_0f7a4 (d := 1) (by decide) [.inl a4] rfl rfl (Nat.le_of_ble_eq_true rfl) dX6_smallestRepair_46 rfl (Runs.fn ct_J6_bitCount (aw_iload_n dX6_smallestRepair_49 rfl (aw_icmp_ne 65 dX6_smallestRepair_50 (by decide) (fun c2 => (aw_mask [true, true, true, true, true] rfl ((h.2 c1).1 c2))) (fun c2 => (aw_iload dX6_smallestRepair_53 rfl (aw_iload_n dX6_smallestRepair_55 rfl (aw_iand dX6_smallestRepair_56 (aw_iload_n dX6_smallestRepair_57 rfl (aw_icmp_ne 65 dX6_smallestRepair_58 (by decide) (fun c3 => (aw_mask [true, true, true, true, true] rfl (((h.2 c1).2 c2).1 c3))) (fun c3 => (aw_iconst 1 dX6_smallestRepair_61 (by decide) (aw_goto 66 dX6_smallestRepair_62 (by decide) (aw_mask [true, true, true, true, true] rfl (((h.2 c1).2 c2).2 c3))))))))))))))))))))
theorem sg_X6_smallestRepair_65 {Γ : Gam} {P : Int32 → Mem → Prop}  (a1 a2 a3 a4 : Int32) {g : Mem} (h : AW Γ 7 iX6_smallestRepair P 66 [some (.inr 0), some (.inl a1), some (.inl a2), some (.inl a3), some (.inl a4)] [.inl 0] g) : AW Γ 7 iX6_smallestRepair P 65 [some (.inr 0), some (.inl a1), some (.inl a2), some (.inl a3), some (.inl a4)] [] g :=
  (aw_iconst 0 dX6_smallestRepair_65 (by decide) (aw_mask [true, true, true, true, true] rfl h))
theorem sg_X6_smallestRepair_66 {Γ : Gam} {P : Int32 → Mem → Prop}  (a1 a2 a3 a4 v0 : Int32) {g : Mem} (h : ((v0 = 0 → AW Γ 7 iX6_smallestRepair P 38 [some (.inr 0), some (.inl a1), some (.inl a2), some (.inl a3), some (.inl (a4 + 1))] [] g) ∧ (¬ v0 = 0 → (Runs Γ 5 yX6_isRepair iX6_isRepair [.inr 0, .inl a4] g (fun r1 g1 => ((r1 = 0 → AW Γ 7 iX6_smallestRepair P 38 [some (.inr 0), some (.inl a1), some (.inl a2), some (.inl a3), some (.inl (a4 + 1))] [] g1) ∧ (¬ r1 = 0 → P a4 g1))))))) : AW Γ 7 iX6_smallestRepair P 66 [some (.inr 0), some (.inl a1), some (.inl a2), some (.inl a3), some (.inl a4)] [.inl v0] g :=
  (aw_istore [some (.inr 0), some (.inl a1), some (.inl a2), some (.inl a3), some (.inl a4), some (.inl v0)] dX6_smallestRepair_66 (by decide) rfl (aw_iload dX6_smallestRepair_68 rfl (aw_if_eq 85 dX6_smallestRepair_70 (by decide) (fun c1 => (aw_iinc (a4 + 1) [some (.inr 0), some (.inl a1), some (.inl a2), some (.inl a3), some (.inl (a4 + 1)), some (.inl v0)] dX6_smallestRepair_85 rfl (by rfl) (by decide) rfl (aw_goto 38 dX6_smallestRepair_88 (by decide) (aw_mask [true, true, true, true, true] rfl (h.1 c1))))) (fun c1 => (aw_aload_n dX6_smallestRepair_73 rfl (aw_iload dX6_smallestRepair_74 rfl (aw_callVi lkX6_177 ckX6_isRepair ca_0 rfl (d := 5) (by decide) [.inl a4] rfl rfl (Nat.le_of_ble_eq_true rfl) dX6_smallestRepair_76 rfl (Runs.mono (h.2 c1) (fun r1 g1 h1_ => (aw_if_eq 85 dX6_smallestRepair_79 (by decide) (fun c2 => (aw_iinc (a4 + 1) [some (.inr 0), some (.inl a1), some (.inl a2), some (.inl a3), some (.inl (a4 + 1)), some (.inl v0)] dX6_smallestRepair_85 rfl (by rfl) (by decide) rfl (aw_goto 38 dX6_smallestRepair_88 (by decide) (aw_mask [true, true, true, true, true] rfl (h1_.1 c2))))) (fun c2 => (aw_iload dX6_smallestRepair_82 rfl (aw_iret rfl (vp_nar_int _) dX6_smallestRepair_84 (h1_.2 c2))))))))))))))
theorem lp_X6_rep38 {Γ : Gam} {P : Int32 → Mem → Prop} {s : St} {g0 : Mem} {z : Nat} (h : CW 34 s g0) (hR : RolesOk s g0) (hz : z < s 41) (hB : ∀ g m, (∀ k, k ≠ 24 → k ≠ 25 → g k = g0 k) → Best s m → P (nI m) g) (hP : ∀ g, (∀ k, k ≠ 24 → k ≠ 25 → g k = g0 k) → (∀ m', m' < 2 ^ s 41 → rp s m' → z + 1 ≤ pop m' 10) → AW Γ 7 iX6_smallestRepair P 24 [some (.inr 0), some (.inl (nI (2 ^ s 41 - 1))), some (.inl (nI (ned s (s 41)))), some (.inl (nI (z + 1)))] [] g) : ∀ n k g, k + n = 2 ^ s 41 - 1 → (∀ k, k ≠ 24 → k ≠ 25 → g k = g0 k) → (∀ m', m' < 2 ^ s 41 → rp s m' → z < pop m' 10 ∨ (z = pop m' 10 ∧ k ≤ m')) → AW Γ 7 iX6_smallestRepair P 38 [some (.inr 0), some (.inl (nI (2 ^ s 41 - 1))), some (.inl (nI (ned s (s 41)))), some (.inl (nI z)), some (.inl (nI k))] [] g := by
  intro n
  have hnr := h.2.nr
  have hal := all_lt h.2
  have hnl : ned s (s 41) < 1024 := msk_lt' _ hnr
  induction n with
  | zero =>
    intro k g hk hf hI
    refine sg_X6_smallestRepair_38 _ _ _ _ ?_
    rw [nI_1]
    refine ⟨fun _ => hP g hf (fun m' a b => ?_), fun c => absurd (nI_le (by omega) (by omega)) c⟩
    rcases hI m' a b with q | ⟨q1, q2⟩
    · exact q
    · have e : m' = 2 ^ s 41 - 1 := by omega
      rw [e, pop_all _ (by omega)] at q1
      omega
  | succ n ih =>
    intro k g hk hf hI
    have h1 : CW 34 s g := ⟨h.1.ext (fun k k1 k2 => hf k (by omega) (by omega)), h.2⟩
    have hR1 : RolesOk s g := hR.ext (fun k k1 k2 => hf k (by omega) (by omega))
    have hp := (pop_le (m := k) (n := 10) (by omega) 10).2
    have skip : ∀ g', (∀ k, k ≠ 24 → k ≠ 25 → g' k = g0 k) → ¬ (pop k 10 = z ∧ rp s k) → AW Γ 7 iX6_smallestRepair P 38 [some (.inr 0), some (.inl (nI (2 ^ s 41 - 1))), some (.inl (nI (ned s (s 41)))), some (.inl (nI z)), some (.inl (nI (k + 1)))] [] g' := by
      intro g' hf' no
      refine ih (k + 1) g' (by omega) hf' (fun m' a b => ?_)
      have := hI m' a b
      by_cases e : m' = k
      · subst e
        have : ¬ pop m' 10 = z := fun e2 => no ⟨e2, b⟩
        omega
      · omega
    have s65 : ¬ (pop k 10 = z ∧ rp s k) → AW Γ 7 iX6_smallestRepair P 65 [some (.inr 0), some (.inl (nI (2 ^ s 41 - 1))), some (.inl (nI (ned s (s 41)))), some (.inl (nI z)), some (.inl (nI k))] [] g := by
      intro no
      refine sg_X6_smallestRepair_65 _ _ _ _ (sg_X6_smallestRepair_66 _ _ _ _ _ ⟨fun _ => ?_, fun c => absurd rfl c⟩)
      rw [nI_1]
      exact skip g hf no
    refine sg_X6_smallestRepair_38 _ _ _ _ ?_
    have hkn : k &&& ned s (s 41) < 1024 := and_lt (by omega)
    rw [bcI_nI k (by omega), nI_eq (a := pop k 10) (b := z) (by omega) (by omega), fa_and', nI_eq (a := k &&& ned s (s 41)) (b := ned s (s 41)) (by omega) (by omega)]
    refine ⟨fun c => absurd c (nI_ge (by omega) (by omega)), fun _ => ⟨fun c => s65 (fun q => c q.1), fun c => ⟨fun c2 => s65 (fun q => c2 (ned_sub h.2 (by omega) q.2)), fun c2 => ?_⟩⟩⟩
    refine sg_X6_smallestRepair_66 _ _ _ _ _ ⟨fun c3 => absurd c3 (by decide), fun _ => ?_⟩
    refine (ct_X6_isRepair h1 hR1 (by omega)).mono (fun r g1 q => ?_)
    obtain ⟨rfl, q2⟩ := q
    have hf1 : ∀ k, k ≠ 24 → k ≠ 25 → g1 k = g0 k := fun k k1 k2 => by rw [q2 k k1 k2, hf k k1 k2]
    rw [nI_1]
    refine ⟨fun c3 => skip g1 hf1 (fun q => ?_), fun c3 => ?_⟩
    · rw [rpb_t.mpr q.2] at c3
      exact absurd c3 (by decide)
    · exact hB g1 k hf1 ⟨by omega, rpb_t.mp (bi_ne0.mp c3), fun m' a b => by have := hI m' a b; omega⟩
theorem lp_X6_rep24 {Γ : Gam} {P : Int32 → Mem → Prop} {s : St} {g0 : Mem} (h : CW 34 s g0) (hR : RolesOk s g0) (hB : ∀ g m, (∀ k, k ≠ 24 → k ≠ 25 → g k = g0 k) → Best s m → P (nI m) g) : ∀ n z g, z + n = s 41 → (∀ k, k ≠ 24 → k ≠ 25 → g k = g0 k) → (∀ m', m' < 2 ^ s 41 → rp s m' → z ≤ pop m' 10) → AW Γ 7 iX6_smallestRepair P 24 [some (.inr 0), some (.inl (nI (2 ^ s 41 - 1))), some (.inl (nI (ned s (s 41)))), some (.inl (nI z))] [] g := by
  intro n
  have hnr := h.2.nr
  have hal := all_lt h.2
  have h0 : 0 < 2 ^ s 41 := Nat.pow_pos (by decide)
  induction n with
  | zero =>
    intro z g hz hf hI
    have h1 : CW 34 s g := ⟨h.1.ext (fun k k1 k2 => hf k (by omega) (by omega)), h.2⟩
    refine sg_X6_smallestRepair_24 _ _ _ ?_
    rw [show g 34 5 = nI (s 41) from h1.1.2.2.2.2.2.1]
    refine ⟨fun _ => hB g _ hf ⟨by omega, rp_all s, fun m' a b => ?_⟩, fun c => absurd (nI_le (by omega) (by omega)) c⟩
    have e := pop_top m' (by omega) (s 41) (by omega) a (by have := hI m' a b; omega)
    right
    rw [show m' = 2 ^ s 41 - 1 by omega]
    exact ⟨rfl, Nat.le_refl _⟩
  | succ n ih =>
    intro z g hz hf hI
    have h1 : CW 34 s g := ⟨h.1.ext (fun k k1 k2 => hf k (by omega) (by omega)), h.2⟩
    refine sg_X6_smallestRepair_24 _ _ _ ?_
    rw [show g 34 5 = nI (s 41) from h1.1.2.2.2.2.2.1]
    refine ⟨fun c => absurd c (nI_ge (by omega) (by omega)), fun _ => ?_⟩
    exact lp_X6_rep38 h hR (by omega) hB (fun g2 f2 i2 => ih (z + 1) g2 (by omega) f2 i2) (2 ^ s 41 - 1) 0 g (by omega) hf (fun m' a b => by have := hI m' a b; omega)
theorem oc_rep {Γ : Gam} {a : Ab} {g : Mem} (h : CI a g) (hw : WA a) : Runs Γ 7 yX6_smallestRepair iX6_smallestRepair [.inr 0] g (OpC (nI (bst a.1), a) g) := by
  have hnr := hw.1.nr
  refine Runs.intro (by decide) rfl (Nat.le_of_ble_eq_true rfl) (sg_X6_smallestRepair_0 ?_)
  refine (ct_X6_refresh (h.s hw) h.2.2.2).mono (fun _ g1 q => ?_)
  obtain ⟨q1, q2, q3, q4⟩ := q
  have h1 : CW 34 a.1 g1 := ⟨h.1.ext (fun k k1 k2 => q3 k (by omega)), hw.1⟩
  have h0 : 0 < 2 ^ a.1 41 := Nat.pow_pos (by decide)
  have e : (1 : Int32) <<< (nI (a.1 41) &&& 31) - 1 = nI (2 ^ a.1 41 - 1) := by
    rw [bit_nI (by omega), show nI (2 ^ a.1 41) = nI (2 ^ a.1 41 - 1) + 1 by rw [nI_1, show 2 ^ a.1 41 - 1 + 1 = 2 ^ a.1 41 by omega], Int32.add_sub_cancel]
  rw [show g1 34 5 = nI (a.1 41) from h1.1.2.2.2.2.2.1, e]
  refine (ct_X6_findNeeded h1 q2.1).mono (fun r g2 z => ?_)
  obtain ⟨rfl, z2⟩ := z
  have hB : ∀ g' m, (∀ k, k ≠ 24 → k ≠ 25 → g' k = g1 k) → Best a.1 m → OpC (nI (bst a.1), a) g (nI m) g' := by
    intro g' m f b
    rw [bst_eq b]
    exact OpC.an h (by rw [f 0 (by decide) (by decide)]; exact q1) (q2.ext (fun k k1 k2 => f k (by omega) (by omega))) (fun k hk => by rw [f k (by omega) (by omega), q3 k (by omega)])
  exact lp_X6_rep24 h1 q2.1 hB (a.1 41) 0 g2 (by omega) z2 (fun _ _ _ => Nat.zero_le _)
