/-! The class's Closure: the passes. -/
def FF (s : St) (E : Rel) (x y : Nat) : Prop := F1 s E x y ∧ (dz s x 2 = true → F2 s E x y)
theorem sg_X1_applyRules_0 {Γ : Gam} {P : Int32 → Mem → Prop} (b : Nat) (hb : isCl b) (a2 : Int32) {g : Mem} (h : AW Γ 3 iX1_applyRules P 22 [some (.inr b), some (.inr 6), some (.inl a2), some (.inl (bi (hasB (g 6 1) a2))), some (.inl (bi (hasB (g 6 2) a2))), some (.inl 0)] [] g) : AW Γ 3 iX1_applyRules P 0 [some (.inr b), some (.inr 6), some (.inl a2)] [] g :=
  (aw_aload_n dX1_applyRules_0 rfl (aw_geti fkX1_38 fa_6_1 dX1_applyRules_1 (aw_iload_n dX1_applyRules_4 rfl (aw_callSNi nkX1_41 ckX6_contains (d := 1) (by decide) [.inl (g 6 1), .inl a2] rfl rfl (Nat.le_of_ble_eq_true rfl) dX1_applyRules_5 rfl (Runs.fn ct_X6_contains (aw_istore_n [some (.inr b), some (.inr 6), some (.inl a2), some (.inl (bi (hasB (g 6 1) a2)))] dX1_applyRules_8 (by decide) rfl (aw_aload_n dX1_applyRules_9 rfl (aw_geti fkX1_45 fa_6_2 dX1_applyRules_10 (aw_iload_n dX1_applyRules_13 rfl (aw_callSNi nkX1_41 ckX6_contains (d := 1) (by decide) [.inl (g 6 2), .inl a2] rfl rfl (Nat.le_of_ble_eq_true rfl) dX1_applyRules_14 rfl (Runs.fn ct_X6_contains (aw_istore [some (.inr b), some (.inr 6), some (.inl a2), some (.inl (bi (hasB (g 6 1) a2))), some (.inl (bi (hasB (g 6 2) a2)))] dX1_applyRules_17 (by decide) rfl (aw_iconst 0 dX1_applyRules_19 (by decide) (aw_istore [some (.inr b), some (.inr 6), some (.inl a2), some (.inl (bi (hasB (g 6 1) a2))), some (.inl (bi (hasB (g 6 2) a2))), some (.inl 0)] dX1_applyRules_20 (by decide) rfl (aw_mask [true, true, true, true, true, true] rfl h)))))))))))))))
theorem sg_X1_applyRules_22 {Γ : Gam} {P : Int32 → Mem → Prop} (b : Nat) (hb : isCl b) (a2 a3 a4 a5 : Int32) {g : Mem} (h : (((g 6 0) ≤ a5 → P 0 g) ∧ (¬ ((g 6 0) ≤ a5) → (vp_in a2 10 ∧ ((¬ (bi (hasB (g (b + 1) a2.toNatClampNeg) a5)) = 0 → ((a3 = 0 → AW Γ 3 iX1_applyRules P 81 [some (.inr b), some (.inr 6), some (.inl a2), some (.inl a3), some (.inl a4), some (.inl a5)] [] g) ∧ (¬ a3 = 0 → (((bi (hasB (g 6 3) a5)) = 0 → AW Γ 3 iX1_applyRules P 81 [some (.inr b), some (.inr 6), some (.inl a2), some (.inl a3), some (.inl a4), some (.inl a5)] [] g) ∧ (¬ (bi (hasB (g 6 3) a5)) = 0 → (vp_in a2 10 ∧ (Runs Γ 1 yX1_grant iX1_grant [.inr b, .inl a5, .inl ((g (b + 1) a2.toNatClampNeg) ||| (1 <<< (a2 &&& 31)))] g (fun r1 g1 => AW Γ 3 iX1_applyRules P 81 [some (.inr b), some (.inr 6), some (.inl a2), some (.inl a3), some (.inl a4), some (.inl a5)] [] g1)))))))) ∧ ((bi (hasB (g (b + 1) a2.toNatClampNeg) a5)) = 0 → AW Γ 3 iX1_applyRules P 22 [some (.inr b), some (.inr 6), some (.inl a2), some (.inl a3), some (.inl a4), some (.inl (a5 + 1))] [] g)))))) : AW Γ 3 iX1_applyRules P 22 [some (.inr b), some (.inr 6), some (.inl a2), some (.inl a3), some (.inl a4), some (.inl a5)] [] g :=
  (aw_iload dX1_applyRules_22 rfl (aw_aload_n dX1_applyRules_24 rfl (aw_geti fkX1_25 fa_6_0 dX1_applyRules_25 (aw_icmp_ge 100 dX1_applyRules_28 (by decide) (fun c1 => (aw_vret rfl dX1_applyRules_100 (h.1 c1))) (fun c1 => (aw_aload_n dX1_applyRules_31 rfl (aw_getr (b + 1) fkX1_9 (fc_0 hb) dX1_applyRules_32 (aw_iload_n dX1_applyRules_35 rfl (aw_iald (ac_1 hb) dX1_applyRules_36 (h.2 c1).1 (aw_iload dX1_applyRules_37 rfl (aw_callSNi nkX1_41 ckX6_contains (d := 1) (by decide) [.inl (g (b + 1) a2.toNatClampNeg), .inl a5] rfl rfl (Nat.le_of_ble_eq_true rfl) dX1_applyRules_39 rfl (Runs.fn ct_X6_contains (aw_if_ne 48 dX1_applyRules_42 (by decide) (fun c2 => (aw_iload_n dX1_applyRules_48 rfl (aw_if_eq 81 dX1_applyRules_49 (by decide) (fun c3 => (aw_mask [true, true, true, true, true, true] rfl (((h.2 c1).2.1 c2).1 c3))) (fun c3 => (aw_aload_n dX1_applyRules_52 rfl (aw_geti fkX1_48 fa_6_3 dX1_applyRules_53 (aw_iload dX1_applyRules_56 rfl (aw_callSNi nkX1_41 ckX6_contains (d := 1) (by decide) [.inl (g 6 3), .inl a5] rfl rfl (Nat.le_of_ble_eq_true rfl) dX1_applyRules_58 rfl (Runs.fn ct_X6_contains (aw_if_eq 81 dX1_applyRules_61 (by decide) (fun c4 => (aw_mask [true, true, true, true, true, true] rfl ((((h.2 c1).2.1 c2).2 c3).1 c4))) (fun c4 => (aw_aload_n dX1_applyRules_64 rfl (aw_iload dX1_applyRules_65 rfl (aw_aload_n dX1_applyRules_67 rfl (aw_getr (b + 1) fkX1_9 (fc_0 hb) dX1_applyRules_68 (aw_iload_n dX1_applyRules_71 rfl (aw_iald (ac_1 hb) dX1_applyRules_72 ((((h.2 c1).2.1 c2).2 c3).2 c4).1 (aw_iload_n dX1_applyRules_73 rfl (aw_callSNi nkX1_51 ckX6_bit (d := 1) (by decide) [.inl a2] rfl rfl (Nat.le_of_ble_eq_true rfl) dX1_applyRules_74 rfl (Runs.fn ct_X6_bit (aw_ior dX1_applyRules_77 (aw_callVv lkX1_55 ckX1_grant (cc_ hb) rfl (d := 1) (by decide) [.inl a5, .inl ((g (b + 1) a2.toNatClampNeg) ||| (1 <<< (a2 &&& 31)))] rfl rfl (Nat.le_of_ble_eq_true rfl) dX1_applyRules_78 rfl (Runs.mono ((((h.2 c1).2.1 c2).2 c3).2 c4).2 (fun r1 g1 h1_ => (aw_mask [true, true, true, true, true, true] rfl h1_))))))))))))))))))))))))) (fun c2 => (aw_goto 94 dX1_applyRules_45 (by decide) (aw_iinc (a5 + 1) [some (.inr b), some (.inr 6), some (.inl a2), some (.inl a3), some (.inl a4), some (.inl (a5 + 1))] dX1_applyRules_94 rfl (by rfl) (by decide) rfl (aw_goto 22 dX1_applyRules_97 (by decide) (aw_mask [true, true, true, true, true, true] rfl ((h.2 c1).2.2 c2)))))))))))))))))))
theorem sg_X1_applyRules_81 {Γ : Gam} {P : Int32 → Mem → Prop} (b : Nat) (hb : isCl b) (a2 a3 a4 a5 : Int32) {g : Mem} (h : ((a4 = 0 → AW Γ 3 iX1_applyRules P 22 [some (.inr b), some (.inr 6), some (.inl a2), some (.inl a3), some (.inl a4), some (.inl (a5 + 1))] [] g) ∧ (¬ a4 = 0 → (Runs Γ 2 yX1_takeFrom iX1_takeFrom [.inr b, .inr 6, .inl a2, .inl a5] g (fun r1 g1 => AW Γ 3 iX1_applyRules P 22 [some (.inr b), some (.inr 6), some (.inl a2), some (.inl a3), some (.inl a4), some (.inl (a5 + 1))] [] g1))))) : AW Γ 3 iX1_applyRules P 81 [some (.inr b), some (.inr 6), some (.inl a2), some (.inl a3), some (.inl a4), some (.inl a5)] [] g :=
  (aw_iload dX1_applyRules_81 rfl (aw_if_eq 94 dX1_applyRules_83 (by decide) (fun c1 => (aw_iinc (a5 + 1) [some (.inr b), some (.inr 6), some (.inl a2), some (.inl a3), some (.inl a4), some (.inl (a5 + 1))] dX1_applyRules_94 rfl (by rfl) (by decide) rfl (aw_goto 22 dX1_applyRules_97 (by decide) (aw_mask [true, true, true, true, true, true] rfl (h.1 c1))))) (fun c1 => (aw_aload_n dX1_applyRules_86 rfl (aw_aload_n dX1_applyRules_87 rfl (aw_iload_n dX1_applyRules_88 rfl (aw_iload dX1_applyRules_89 rfl (aw_callVv lkX1_59 ckX1_takeFrom (cc_ hb) rfl (d := 2) (by decide) [.inr 6, .inl a2, .inl a5] rfl rfl (Nat.le_of_ble_eq_true rfl) dX1_applyRules_91 rfl (Runs.mono (h.2 c1) (fun r1 g1 h1_ => (aw_iinc (a5 + 1) [some (.inr b), some (.inr 6), some (.inl a2), some (.inl a3), some (.inl a4), some (.inl (a5 + 1))] dX1_applyRules_94 rfl (by rfl) (by decide) rfl (aw_goto 22 dX1_applyRules_97 (by decide) (aw_mask [true, true, true, true, true, true] rfl h1_)))))))))))))
theorem lp_X1_ar22 {Γ : Gam} {P : Int32 → Mem → Prop} {Cl : Rel → Prop} {s : St} {b : Nat} {E0 : Rel} {f0 : Bool} {g0 : Mem} {x : Nat} (hb : isCl b) (hw : WF s) (hCl : ∀ G, Cl G → cl5 s G) (hR : RolesOk s g0) (hx : x < s 0) (hP : ∀ E' f' g', Tr Cl s b E0 f0 g0 E' f' g' → (f' = false → ∀ y, y < s 0 → E0 x y = true → FF s E0 x y) → P 0 g') : ∀ n k E f g, k + n = s 0 → Tr Cl s b E0 f0 g0 E f g → (f = false → ∀ y, y < k → E0 x y = true → FF s E0 x y) → AW Γ 3 iX1_applyRules P 22 [some (.inr b), some (.inr 6), some (.inl (nI x)), some (.inl (bi (dz s x 1))), some (.inl (bi (dz s x 2))), some (.inl (nI k))] [] g := by
  intro n
  have hn := hw.n
  induction n with
  | zero =>
    intro k E f g hk t w
    have e6 : g 6 0 = nI (s 0) := (hR.tr hb t).1
    refine sg_X1_applyRules_22 b hb _ _ _ _ ?_
    rw [e6]
    rw [show k = s 0 by omega] at w ⊢
    exact ⟨fun _ => hP E f g t w, fun c => absurd (nI_le (by omega) (by omega)) c⟩
  | succ n ih =>
    intro k E f g hk t w
    have hks : k < s 0 := by omega
    have hR1 := hR.tr hb t
    have hK := t.2.1
    have s81 : ∀ E1 f1 g1, E x k = true → Tr Cl s b E f g E1 f1 g1 → (f1 = false → F1 s E x k) → AW Γ 3 iX1_applyRules P 81 [some (.inr b), some (.inr 6), some (.inl (nI x)), some (.inl (bi (dz s x 1))), some (.inl (bi (dz s x 2))), some (.inl (nI k))] [] g1 := by
      intro E1 f1 g1 hE t1 w1
      refine sg_X1_applyRules_81 b hb _ _ _ _ ?_
      rw [nI_1]
      refine ⟨fun c => ?_, fun c => ?_⟩
      · refine ih (k + 1) E1 f1 g1 (by omega) (t.trans t1) (fun e y hy ey => ?_)
        obtain ⟨a1, a2⟩ := t1.still e
        obtain ⟨a3, a4⟩ := t.still a1
        have w2 := w1 e
        rw [a4] at w2
        by_cases q : y = k
        · subst q
          exact ⟨w2, fun d => by rw [bi_eq0.mp c] at d; cases d⟩
        · exact w a1 y (by omega) ey
      · refine (ct_X1_takeFrom hb hw hCl (hR1.tr hb t1) t1.2.1 hx hks (bi_ne0.mp c) (t1.2.2.1 x k hE)).mono (fun _ g2 q => ?_)
        obtain ⟨E2, f2, t2, w2⟩ := q
        refine ih (k + 1) E2 f2 g2 (by omega) ((t.trans t1).trans t2) (fun e y hy ey => ?_)
        obtain ⟨a5, a6⟩ := t2.still e
        obtain ⟨a1, a2⟩ := t1.still a5
        obtain ⟨a3, a4⟩ := t.still a1
        have w3 := w1 a5
        have w4 := w2 e
        rw [a2] at w4
        rw [a4] at w3 w4
        by_cases q : y = k
        · subst q
          exact ⟨w3, fun _ => w4⟩
        · exact w a1 y (by omega) ey
    refine sg_X1_applyRules_22 b hb _ _ _ _ ?_
    rw [hR1.1, ix_nI (n := x) (by omega), hK.1 x hx, has_msk hn hks, hR1.2.2.2.1, has_msk hn hks, nI_1]
    refine ⟨fun c => absurd c (nI_ge (by omega) (by omega)), fun _ => ⟨vp_nI (by omega) (by decide), fun c => ⟨fun c1 => ?_, fun c1 => ⟨fun c2 => ?_, fun c2 => ⟨vp_nI (by omega) (by decide), ?_⟩⟩⟩, fun c => ?_⟩⟩
    · refine s81 E f g (bi_ne0.mp c) (Tr.rf hK) (fun _ d => ?_)
      rw [bi_eq0.mp c1] at d; cases d
    · refine s81 E f g (bi_ne0.mp c) (Tr.rf hK) (fun _ _ d => ?_)
      rw [bi_eq0.mp c2] at d; cases d
    · rw [or_msk (p := E x) (q := fun z => E x z || decide (z = x)) hn hx (by simp) (fun j hj => by rw [decide_eq_false hj, Bool.or_false])]
      refine (ct_X1_grant (Cl := Cl) hb hw hK hks (fun G hG e z hz v => ?_)).mono (fun _ g1 q => ?_)
      · refine sd (hCl G hG) (r := 1) (k := x) (by decide) (by decide) hx hks hz ?_
        rw [qq1, bi_ne0.mp c2]
        unfold q1
        rw [bi_ne0.mp c1, e x k (bi_ne0.mp c)]
        rw [Bool.or_eq_true, decide_eq_true_eq] at v
        rcases v with v | v
        · rw [e x z v]; simp
        · simp [v]
      · obtain ⟨E1, f1, t1, v1⟩ := q
        refine s81 E1 f1 g1 (bi_ne0.mp c) t1 (fun e _ _ z hz d => ?_)
        obtain ⟨a1, a2⟩ := t1.still e
        rw [a2] at v1
        refine v1 z hz ?_
        rw [Bool.or_eq_true, decide_eq_true_eq]
        exact d
    · refine ih (k + 1) E f g (by omega) t (fun e y hy ey => ?_)
      by_cases q : y = k
      · subst q
        rw [← (t.still e).2, bi_eq0.mp c] at ey
        cases ey
      · exact w e y (by omega) ey
theorem ct_X1_applyRules {Γ : Gam} {Cl : Rel → Prop} {s : St} {b : Nat} {E : Rel} {f : Bool} {g : Mem} {x : Nat} (hb : isCl b) (hw : WF s) (hCl : ∀ G, Cl G → cl5 s G) (hR : RolesOk s g) (hK : KR s b E f g) (hx : x < s 0) : Runs Γ 3 yX1_applyRules iX1_applyRules [.inr b, .inr 6, .inl (nI x)] g (fun _ g' => ∃ E' f', Tr Cl s b E f g E' f' g' ∧ (f' = false → ∀ y, y < s 0 → E x y = true → FF s E x y)) := by
  have hn := hw.n
  refine Runs.intro (by decide) rfl (Nat.le_of_ble_eq_true rfl) (sg_X1_applyRules_0 b hb _ ?_)
  rw [hR.2.1, hR.2.2.1, has_msk hn hx, has_msk hn hx]
  exact lp_X1_ar22 hb hw hCl hR hx (fun E1 f1 g1 t1 w1 => ⟨E1, f1, t1, w1⟩) (s 0) 0 E f g (by omega) (Tr.rf hK) (fun _ y hy => absurd hy (Nat.not_lt_zero _))
def mgd (s : St) (E : Rel) (x : Nat) : Nat → Nat → Bool
  | 0, _ => false
  | k + 1, z => mgd s E x k z || (E x k && mat s k z)
theorem mgd_t {s : St} {E : Rel} {x : Nat} : ∀ k z, mgd s E x k z = true ↔ ∃ y, y < k ∧ E x y = true ∧ s (31 + z) = s (31 + y)
  | 0, z => by simp [mgd]
  | k + 1, z => by
    rw [mgd, Bool.or_eq_true, mgd_t k z, Bool.and_eq_true]
    unfold mat
    rw [decide_eq_true_eq]
    constructor
    · rintro (⟨y, h1, h2⟩ | h2)
      · exact ⟨y, by omega, h2⟩
      · exact ⟨k, by omega, h2⟩
    · rintro ⟨y, h1, h2⟩
      by_cases e : y = k
      · subst e; exact Or.inr h2
      · exact Or.inl ⟨y, by omega, h2⟩
/-- what rule 6 asks of x's references -/
def F6 (s : St) (E : Rel) (x : Nat) : Prop := ∀ y a z, y < s 0 → a < s 0 → z < s 0 → E x y = true → hz s a = true → s (31 + a) = s (31 + x) → s (31 + z) = s (31 + y) → E a z = true
theorem sg_X1_merge_0 {Γ : Gam} {P : Int32 → Mem → Prop} (b : Nat) (hb : isCl b) (a2 : Int32) {g : Mem} (h : AW Γ 2 iX1_merge P 5 [some (.inr b), some (.inr 6), some (.inl a2), some (.inl 0), some (.inl 0)] [] g) : AW Γ 2 iX1_merge P 0 [some (.inr b), some (.inr 6), some (.inl a2)] [] g :=
  (aw_iconst 0 dX1_merge_0 (by decide) (aw_istore_n [some (.inr b), some (.inr 6), some (.inl a2), some (.inl 0)] dX1_merge_1 (by decide) rfl (aw_iconst 0 dX1_merge_2 (by decide) (aw_istore [some (.inr b), some (.inr 6), some (.inl a2), some (.inl 0), some (.inl 0)] dX1_merge_3 (by decide) rfl (aw_mask [true, true, true, true, true] rfl h)))))
theorem sg_X1_merge_5 {Γ : Gam} {P : Int32 → Mem → Prop} (b : Nat) (hb : isCl b) (a2 a3 a4 : Int32) {g : Mem} (h : (((g 6 0) ≤ a4 → (vp_in a2 10 ∧ AW Γ 2 iX1_merge P 60 [some (.inr b), some (.inr 6), none, some (.inl a3), some (.inl ((g 11 a2.toNatClampNeg) &&& (g 6 6))), some (.inl 0)] [] g)) ∧ (¬ ((g 6 0) ≤ a4) → (vp_in a2 10 ∧ (((bi (hasB (g (b + 1) a2.toNatClampNeg) a4)) = 0 → AW Γ 2 iX1_merge P 5 [some (.inr b), some (.inr 6), some (.inl a2), some (.inl a3), some (.inl (a4 + 1))] [] g) ∧ (¬ (bi (hasB (g (b + 1) a2.toNatClampNeg) a4)) = 0 → (vp_in a4 10 ∧ AW Γ 2 iX1_merge P 5 [some (.inr b), some (.inr 6), some (.inl a2), some (.inl (a3 ||| (g 11 a4.toNatClampNeg))), some (.inl (a4 + 1))] [] g))))))) : AW Γ 2 iX1_merge P 5 [some (.inr b), some (.inr 6), some (.inl a2), some (.inl a3), some (.inl a4)] [] g :=
  (aw_iload dX1_merge_5 rfl (aw_aload_n dX1_merge_7 rfl (aw_geti fkX1_25 fa_6_0 dX1_merge_8 (aw_icmp_ge 44 dX1_merge_11 (by decide) (fun c1 => (aw_aload_n dX1_merge_44 rfl (aw_getr 11 fkX1_75 fa_6_11 dX1_merge_45 (aw_iload_n dX1_merge_48 rfl (aw_iald aa_11 dX1_merge_49 (h.1 c1).1 (aw_aload_n dX1_merge_50 rfl (aw_geti fkX1_78 fa_6_6 dX1_merge_51 (aw_iand dX1_merge_54 (aw_istore [some (.inr b), some (.inr 6), some (.inl a2), some (.inl a3), some (.inl ((g 11 a2.toNatClampNeg) &&& (g 6 6)))] dX1_merge_55 (by decide) rfl (aw_iconst 0 dX1_merge_57 (by decide) (aw_istore [some (.inr b), some (.inr 6), some (.inl a2), some (.inl a3), some (.inl ((g 11 a2.toNatClampNeg) &&& (g 6 6))), some (.inl 0)] dX1_merge_58 (by decide) rfl (aw_mask [true, true, false, true, true, true] rfl (h.1 c1).2)))))))))))) (fun c1 => (aw_aload_n dX1_merge_14 rfl (aw_getr (b + 1) fkX1_9 (fc_0 hb) dX1_merge_15 (aw_iload_n dX1_merge_18 rfl (aw_iald (ac_1 hb) dX1_merge_19 (h.2 c1).1 (aw_iload dX1_merge_20 rfl (aw_callSNi nkX1_41 ckX6_contains (d := 1) (by decide) [.inl (g (b + 1) a2.toNatClampNeg), .inl a4] rfl rfl (Nat.le_of_ble_eq_true rfl) dX1_merge_22 rfl (Runs.fn ct_X6_contains (aw_if_eq 38 dX1_merge_25 (by decide) (fun c2 => (aw_iinc (a4 + 1) [some (.inr b), some (.inr 6), some (.inl a2), some (.inl a3), some (.inl (a4 + 1))] dX1_merge_38 rfl (by rfl) (by decide) rfl (aw_goto 5 dX1_merge_41 (by decide) (aw_mask [true, true, true, true, true] rfl ((h.2 c1).2.1 c2))))) (fun c2 => (aw_iload_n dX1_merge_28 rfl (aw_aload_n dX1_merge_29 rfl (aw_getr 11 fkX1_75 fa_6_11 dX1_merge_30 (aw_iload dX1_merge_33 rfl (aw_iald aa_11 dX1_merge_35 ((h.2 c1).2.2 c2).1 (aw_ior dX1_merge_36 (aw_istore_n [some (.inr b), some (.inr 6), some (.inl a2), some (.inl (a3 ||| (g 11 a4.toNatClampNeg))), some (.inl a4)] dX1_merge_37 (by decide) rfl (aw_iinc (a4 + 1) [some (.inr b), some (.inr 6), some (.inl a2), some (.inl (a3 ||| (g 11 a4.toNatClampNeg))), some (.inl (a4 + 1))] dX1_merge_38 rfl (by rfl) (by decide) rfl (aw_goto 5 dX1_merge_41 (by decide) (aw_mask [true, true, true, true, true] rfl ((h.2 c1).2.2 c2).2))))))))))))))))))))))))
theorem sg_X1_merge_60 {Γ : Gam} {P : Int32 → Mem → Prop} (b : Nat) (hb : isCl b) (a3 a4 a5 : Int32) {g : Mem} (h : (((g 6 0) ≤ a5 → P 0 g) ∧ (¬ ((g 6 0) ≤ a5) → (((bi (hasB a4 a5)) = 0 → AW Γ 2 iX1_merge P 60 [some (.inr b), some (.inr 6), none, some (.inl a3), some (.inl a4), some (.inl (a5 + 1))] [] g) ∧ (¬ (bi (hasB a4 a5)) = 0 → (Runs Γ 1 yX1_grant iX1_grant [.inr b, .inl a5, .inl a3] g (fun r1 g1 => AW Γ 2 iX1_merge P 60 [some (.inr b), some (.inr 6), none, some (.inl a3), some (.inl a4), some (.inl (a5 + 1))] [] g1))))))) : AW Γ 2 iX1_merge P 60 [some (.inr b), some (.inr 6), none, some (.inl a3), some (.inl a4), some (.inl a5)] [] g :=
  (aw_iload dX1_merge_60 rfl (aw_aload_n dX1_merge_62 rfl (aw_geti fkX1_25 fa_6_0 dX1_merge_63 (aw_icmp_ge 92 dX1_merge_66 (by decide) (fun c1 => (aw_vret rfl dX1_merge_92 (h.1 c1))) (fun c1 => (aw_iload dX1_merge_69 rfl (aw_iload dX1_merge_71 rfl (aw_callSNi nkX1_41 ckX6_contains (d := 1) (by decide) [.inl a4, .inl a5] rfl rfl (Nat.le_of_ble_eq_true rfl) dX1_merge_73 rfl (Runs.fn ct_X6_contains (aw_if_eq 86 dX1_merge_76 (by decide) (fun c2 => (aw_iinc (a5 + 1) [some (.inr b), some (.inr 6), none, some (.inl a3), some (.inl a4), some (.inl (a5 + 1))] dX1_merge_86 rfl (by rfl) (by decide) rfl (aw_goto 60 dX1_merge_89 (by decide) (aw_mask [true, true, false, true, true, true] rfl ((h.2 c1).1 c2))))) (fun c2 => (aw_aload_n dX1_merge_79 rfl (aw_iload dX1_merge_80 rfl (aw_iload_n dX1_merge_82 rfl (aw_callVv lkX1_55 ckX1_grant (cc_ hb) rfl (d := 1) (by decide) [.inl a5, .inl a3] rfl rfl (Nat.le_of_ble_eq_true rfl) dX1_merge_83 rfl (Runs.mono ((h.2 c1).2 c2) (fun r1 g1 h1_ => (aw_iinc (a5 + 1) [some (.inr b), some (.inr 6), none, some (.inl a3), some (.inl a4), some (.inl (a5 + 1))] dX1_merge_86 rfl (by rfl) (by decide) rfl (aw_goto 60 dX1_merge_89 (by decide) (aw_mask [true, true, false, true, true, true] rfl h1_))))))))))))))))))))
theorem lp_X1_mg60 {Γ : Gam} {P : Int32 → Mem → Prop} {Cl : Rel → Prop} {s : St} {b : Nat} {E0 : Rel} {f0 : Bool} {g0 : Mem} {x w : Nat} (hb : isCl b) (hw : WF s) (hCl : ∀ G, Cl G → cl6 s G) (hR : RolesOk s g0) (hx : x < s 0) (ew : ∀ a, a < s 0 → hasB (nI w) (nI a) = (mat s x a && hz s a)) (hP : ∀ E' f' g', Tr Cl s b E0 f0 g0 E' f' g' → (f' = false → F6 s E0 x) → P 0 g') : ∀ n k E f g, k + n = s 0 → Tr Cl s b E0 f0 g0 E f g → (f = false → ∀ y a z, a < k → y < s 0 → z < s 0 → E0 x y = true → hz s a = true → s (31 + a) = s (31 + x) → s (31 + z) = s (31 + y) → E0 a z = true) → AW Γ 2 iX1_merge P 60 [some (.inr b), some (.inr 6), none, some (.inl (nI (msk (mgd s E0 x (s 0)) (s 0)))), some (.inl (nI w)), some (.inl (nI k))] [] g := by
  intro n
  have hn := hw.n
  induction n with
  | zero =>
    intro k E f g hk t v
    have e6 : g 6 0 = nI (s 0) := (hR.tr hb t).1
    refine sg_X1_merge_60 b hb _ _ _ ?_
    rw [e6]
    exact ⟨fun _ => hP E f g t (fun e y a z h1 h2 h3 => v e y a z (by omega) h1 h3), fun c => absurd (nI_le (by omega) (by omega)) c⟩
  | succ n ih =>
    intro k E f g hk t v
    have hks : k < s 0 := by omega
    have hR1 := hR.tr hb t
    refine sg_X1_merge_60 b hb _ _ _ ?_
    rw [hR1.1, ew k hks, nI_1]
    refine ⟨fun c => absurd c (nI_ge (by omega) (by omega)), fun _ => ⟨fun c => ?_, fun c => ?_⟩⟩
    · refine ih (k + 1) E f g (by omega) t (fun e y a z ha hy hz' e1 e2 e3 e4 => ?_)
      by_cases q : a = k
      · subst q
        have c' := bi_eq0.mp c
        unfold mat at c'
        rw [e2, decide_eq_true e3] at c'
        cases c'
      · exact v e y a z (by omega) hy hz' e1 e2 e3 e4
    · have c' := bi_ne0.mp c
      unfold mat at c'
      rw [Bool.and_eq_true, decide_eq_true_eq] at c'
      refine (ct_X1_grant (Cl := Cl) hb hw t.2.1 hks (fun G hG e z hz' u => ?_)).mono (fun _ g1 q => ?_)
      · obtain ⟨y, u1, u2, u3⟩ := (mgd_t _ _).mp u
        exact hCl G hG x y k z hx u1 hks hz' (e x y (t.2.2.1 x y u2)) c'.2 c'.1 u3
      · obtain ⟨E1, f1, t1, v1⟩ := q
        refine ih (k + 1) E1 f1 g1 (by omega) (t.trans t1) (fun e y a z ha hy hz' e1 e2 e3 e4 => ?_)
        obtain ⟨a1, a2⟩ := t1.still e
        obtain ⟨a3, a4⟩ := t.still a1
        by_cases q : a = k
        · subst q
          have r := v1 z hz' ((mgd_t _ _).mpr ⟨y, hy, e1, e4⟩)
          rw [a2, a4] at r
          exact r
        · exact v a1 y a z (by omega) hy hz' e1 e2 e3 e4
theorem lp_X1_mg5 {Γ : Gam} {P : Int32 → Mem → Prop} {Cl : Rel → Prop} {s : St} {b : Nat} {E : Rel} {f : Bool} {g : Mem} {x : Nat} (hb : isCl b) (hw : WF s) (hCl : ∀ G, Cl G → cl6 s G) (hR : RolesOk s g) (hK : KR s b E f g) (hx : x < s 0) (hP : ∀ E' f' g', Tr Cl s b E f g E' f' g' → (f' = false → F6 s E x) → P 0 g') : ∀ n k, k + n = s 0 → AW Γ 2 iX1_merge P 5 [some (.inr b), some (.inr 6), some (.inl (nI x)), some (.inl (nI (msk (mgd s E x k) (s 0)))), some (.inl (nI k))] [] g := by
  intro n
  have hn := hw.n
  have e11 : ∀ y, y < s 0 → g 11 y = nI (msk (mat s y) (s 0)) := fun y hy => (hR.2.2.2.2.2.2.2 y hy).2.2.2.2
  induction n with
  | zero =>
    intro k hk
    refine sg_X1_merge_5 b hb _ _ _ ?_
    rw [hR.1, ix_nI (n := x) (by omega), e11 x hx, hR.2.2.2.2.2.2.1, fa_and']
    rw [show k = s 0 by omega]
    refine ⟨fun _ => ⟨vp_nI (by omega) (by decide), lp_X1_mg60 hb hw hCl hR hx (fun a ha => ?_) hP (s 0) 0 E f g (by omega) (Tr.rf hK) (fun _ y a z ha => absurd ha (Nat.not_lt_zero _))⟩, fun c => absurd (nI_le (by omega) (by omega)) c⟩
    have l1 := msk_lt' (mat s x) hn
    rw [hasB_nI (by have := and_lt (b := msk (hz s) (s 0)) l1; omega) (by omega), Nat.testBit_and, msk_bit, msk_bit, decide_eq_true ha]
    rfl
  | succ n ih =>
    intro k hk
    have hks : k < s 0 := by omega
    refine sg_X1_merge_5 b hb _ _ _ ?_
    have hih := ih (k + 1) (by omega)
    rw [hR.1, ix_nI (n := x) (by omega), ix_nI (n := k) (by omega), hK.1 x hx, has_msk hn hks, e11 k hks, fa_or', nI_1]
    refine ⟨fun c => absurd c (nI_ge (by omega) (by omega)), fun _ => ⟨vp_nI (by omega) (by decide), fun c => ?_, fun c => ⟨vp_nI (by omega) (by decide), ?_⟩⟩⟩
    · rw [msk_cong (q := mgd s E x k) (fun z _ => by rw [mgd, bi_eq0.mp c, Bool.false_and, Bool.or_false])] at hih
      exact hih
    · have e : msk (mgd s E x k) (s 0) ||| msk (mat s k) (s 0) = msk (mgd s E x (k + 1)) (s 0) := by
        refine msk_eq (fun j => ?_)
        rw [Nat.testBit_or, msk_bit, msk_bit, mgd, bi_ne0.mp c]
        by_cases hj : j < s 0
        · simp [hj]
        · simp [hj]
      rw [e]
      exact hih
theorem msk_none : ∀ n, msk (fun _ => false) n = 0
  | 0 => rfl
  | n + 1 => by rw [or0 rfl, msk_none n]
theorem ct_X1_merge {Γ : Gam} {Cl : Rel → Prop} {s : St} {b : Nat} {E : Rel} {f : Bool} {g : Mem} {x : Nat} (hb : isCl b) (hw : WF s) (hCl : ∀ G, Cl G → cl6 s G) (hR : RolesOk s g) (hK : KR s b E f g) (hx : x < s 0) : Runs Γ 2 yX1_merge iX1_merge [.inr b, .inr 6, .inl (nI x)] g (fun _ g' => ∃ E' f', Tr Cl s b E f g E' f' g' ∧ (f' = false → F6 s E x)) := by
  have h := lp_X1_mg5 (Γ := Γ) (P := fun _ g' => ∃ E' f', Tr Cl s b E f g E' f' g' ∧ (f' = false → F6 s E x)) hb hw hCl hR hK hx (fun E1 f1 g1 t1 w1 => ⟨E1, f1, t1, w1⟩) (s 0) 0 (by omega)
  rw [msk_cong (p := mgd s E x 0) (q := fun _ => false) (fun _ _ => rfl), msk_none] at h
  exact Runs.intro (by decide) rfl (Nat.le_of_ble_eq_true rfl) (sg_X1_merge_0 b hb _ h)
