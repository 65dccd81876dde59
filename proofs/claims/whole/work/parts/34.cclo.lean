/-! The class's Closure: grants, and the rules 1 to 5. -/
def Sb (E F : Rel) : Prop := ∀ x y, E x y = true → F x y = true
theorem crd_mono {E F : Rel} (h : Sb E F) : crd E ≤ crd F := cc_mono (fun j hj => h _ _ hj) 100
/-- the Closure at the cell b has the rows of E, and its flag is f -/
def KR (s : St) (b : Nat) (E : Rel) (f : Bool) (g : Mem) : Prop := (∀ a, a < s 0 → g (b + 1) a = nI (msk (E a) (s 0))) ∧ g b 1 = bi f ∧ ∀ x y, E x y = true → x < s 0 ∧ y < s 0
/-- from E to E': only what every relation of Cl above E has is added, and the flag tells of it -/
def Tr (Cl : Rel → Prop) (s : St) (b : Nat) (E : Rel) (f : Bool) (g : Mem) (E' : Rel) (f' : Bool) (g' : Mem) : Prop := (∀ k, k ≠ b → k ≠ b + 1 → g' k = g k) ∧ KR s b E' f' g' ∧ Sb E E' ∧ (∀ G, Cl G → Sb E G → Sb E' G) ∧ ((f' = f ∧ E' = E) ∨ (f' = true ∧ (f = true ∨ crd E < crd E')))
theorem Tr.rf {Cl : Rel → Prop} {s : St} {b : Nat} {E : Rel} {f : Bool} {g : Mem} (h : KR s b E f g) : Tr Cl s b E f g E f g := ⟨fun _ _ _ => rfl, h, fun _ _ e => e, fun _ _ e => e, Or.inl ⟨rfl, rfl⟩⟩
theorem Tr.trans {Cl : Rel → Prop} {s : St} {b : Nat} {E1 E2 E3 : Rel} {f1 f2 f3 : Bool} {g1 g2 g3 : Mem} (h : Tr Cl s b E1 f1 g1 E2 f2 g2) (h' : Tr Cl s b E2 f2 g2 E3 f3 g3) : Tr Cl s b E1 f1 g1 E3 f3 g3 := by
  refine ⟨fun k a c => by rw [h'.1 k a c, h.1 k a c], h'.2.1, fun x y e => h'.2.2.1 x y (h.2.2.1 x y e), fun G hG e => h'.2.2.2.1 G hG (h.2.2.2.1 G hG e), ?_⟩
  have m1 := crd_mono h.2.2.1
  have m2 := crd_mono h'.2.2.1
  rcases h.2.2.2.2 with ⟨a1, a2⟩ | ⟨a1, a2⟩
  · rcases h'.2.2.2.2 with ⟨b1, b2⟩ | ⟨b1, b2⟩
    · exact Or.inl ⟨b1.trans a1, b2.trans a2⟩
    · rw [a1, a2] at b2
      exact Or.inr ⟨b1, b2⟩
  · rcases h'.2.2.2.2 with ⟨b1, b2⟩ | ⟨b1, b2⟩
    · refine Or.inr ⟨b1.trans a1, a2.imp id (fun c => ?_)⟩
      omega
    · refine Or.inr ⟨b1, a2.imp id (fun c => ?_)⟩
      omega
theorem Tr.still {Cl : Rel → Prop} {s : St} {b : Nat} {E E' : Rel} {f f' : Bool} {g g' : Mem} (h : Tr Cl s b E f g E' f' g') (hf : f' = false) : f = false ∧ E' = E := by
  rcases h.2.2.2.2 with ⟨a1, a2⟩ | ⟨a1, a2⟩
  · exact ⟨by rw [← a1]; exact hf, a2⟩
  · rw [hf] at a1; cases a1
theorem RolesOk.ext {s : St} {g g' : Mem} (h : RolesOk s g) (he : ∀ k, 6 ≤ k → k < 12 → g' k = g k) : RolesOk s g' := by
  unfold RolesOk at h ⊢
  rw [he 6 (by decide) (by decide), he 7 (by decide) (by decide), he 8 (by decide) (by decide), he 9 (by decide) (by decide), he 10 (by decide) (by decide), he 11 (by decide) (by decide)]
  exact h
theorem isCl.lt {b : Nat} (h : isCl b) : 22 ≤ b ∧ b ≤ 24 := by unfold isCl at h; omega
theorem RolesOk.tr {Cl : Rel → Prop} {s : St} {b : Nat} {E E' : Rel} {f f' : Bool} {g g' : Mem} (h : RolesOk s g) (hb : isCl b) (t : Tr Cl s b E f g E' f' g') : RolesOk s g' := h.ext (fun k k1 k2 => t.1 k (by have := hb.lt; omega) (by have := hb.lt; omega))
theorem sg_X1_grant_0 {Γ : Gam} {P : Int32 → Mem → Prop} (b : Nat) (hb : isCl b) (a1 a2 : Int32) {g : Mem} (h : (vp_in a1 10 ∧ (((a2 &&& ((g (b + 1) a1.toNatClampNeg) ^^^ (-1))) = 0 → P 0 g) ∧ (¬ (a2 &&& ((g (b + 1) a1.toNatClampNeg) ^^^ (-1))) = 0 → (vp_in a1 10 ∧ (vp_in a1 10 ∧ P 0 (up (up g (b + 1) a1.toNatClampNeg ((g (b + 1) a1.toNatClampNeg) ||| a2)) b 1 1))))))) : AW Γ 1 iX1_grant P 0 [some (.inr b), some (.inl a1), some (.inl a2)] [] g :=
  (aw_iload_n dX1_grant_0 rfl (aw_aload_n dX1_grant_1 rfl (aw_getr (b + 1) fkX1_9 (fc_0 hb) dX1_grant_2 (aw_iload_n dX1_grant_5 rfl (aw_iald (ac_1 hb) dX1_grant_6 h.1 (aw_iconst (-1) dX1_grant_7 (by decide) (aw_ixor dX1_grant_8 (aw_iand dX1_grant_9 (aw_if_eq 28 dX1_grant_10 (by decide) (fun c1 => (aw_vret rfl dX1_grant_28 (h.2.1 c1))) (fun c1 => (aw_aload_n dX1_grant_13 rfl (aw_getr (b + 1) fkX1_9 (fc_0 hb) dX1_grant_14 (aw_iload_n dX1_grant_17 rfl (aw_dup2 dX1_grant_18 (aw_iald (ac_1 hb) dX1_grant_19 (h.2.2 c1).1 (aw_iload_n dX1_grant_20 rfl (aw_ior dX1_grant_21 (aw_iast (ac_1 hb) dX1_grant_22 (h.2.2 c1).2.1 (aw_aload_n dX1_grant_23 rfl (aw_iconst 1 dX1_grant_24 (by decide) (aw_putf fpX1_15 (fc_1 hb) (by decide) (by decide) dX1_grant_25 (aw_vret rfl dX1_grant_28 (h.2.2 c1).2.2))))))))))))))))))))))
theorem ct_X1_grant {Γ : Gam} {Cl : Rel → Prop} {s : St} {b : Nat} {E : Rel} {f : Bool} {g : Mem} {h : Nat} {W : Nat → Bool} (hb : isCl b) (hw : WF s) (hK : KR s b E f g) (hh : h < s 0) (hs : ∀ G, Cl G → Sb E G → ∀ y, y < s 0 → W y = true → G h y = true) : Runs Γ 1 yX1_grant iX1_grant [.inr b, .inl (nI h), .inl (nI (msk W (s 0)))] g (fun _ g' => ∃ E' f', Tr Cl s b E f g E' f' g' ∧ ∀ y, y < s 0 → W y = true → E' h y = true) := by
  have hn := hw.n
  have l1 := msk_lt' W hn
  have bits : ∀ k, (dif (msk W (s 0)) (msk (E h) (s 0))).testBit k = (decide (k < s 0) && (W k && !E h k)) := by
    intro k
    rw [dif_bit l1, msk_bit, msk_bit]
    cases decide (k < s 0) <;> cases W k <;> cases E h k <;> rfl
  refine Runs.intro (by decide) rfl (Nat.le_of_ble_eq_true rfl) (sg_X1_grant_0 b hb _ _ ?_)
  rw [ix_nI (n := h) (by omega), hK.1 h hh, andn_nI l1, msk_zero hn bits]
  refine ⟨vp_nI (by omega) (by decide), fun c => ?_, fun c => ⟨vp_nI (by omega) (by decide), vp_nI (by omega) (by decide), ?_⟩⟩
  · refine ⟨E, f, Tr.rf hK, fun y hy e => ?_⟩
    have q := ff_no (fun k => W k && !E h k) (s 0) 0 y (Nat.zero_le _) (by have := (ff_bounds (fun k => W k && !E h k) (s 0) 0).2; omega)
    rw [e, Bool.true_and, Bool.not_eq_false'] at q
    exact q
  · rw [Decidable.not_not] at c
    have y1 := ff_yes (fun k => W k && !E h k) (s 0) 0 (by omega)
    rw [Bool.and_eq_true, Bool.not_eq_true'] at y1
    generalize ff (fun k => W k && !E h k) 0 (s 0) = z at c y1
    have hsub : Sb E (fun x y => E x y || (decide (x = h) && (decide (y < s 0) && W y))) := fun x y e => by dsimp only; rw [e]; rfl
    refine ⟨fun x y => E x y || (decide (x = h) && (decide (y < s 0) && W y)), true, ⟨fun k k1 k2 => by rw [up_ne k1, up_ne k2], ⟨fun a ha => ?_, up_at _ _ _ _, fun x y e => ?_⟩, hsub, fun G hG e x y q => ?_, Or.inr ⟨rfl, Or.inr ?_⟩⟩, fun y hy e => ?_⟩
    · rw [up_ne (by omega)]
      by_cases e : a = h
      · subst e
        rw [up_at, fa_or']
        refine congrArg nI (msk_eq (fun j => ?_))
        rw [Nat.testBit_or, msk_bit, msk_bit]
        by_cases hj : j < s 0
        · simp [hj]
        · simp [hj]
      · rw [up_nx e, hK.1 a ha]
        exact congrArg nI (msk_cong (fun j _ => by show E a j = (E a j || (decide (a = h) && (decide (j < s 0) && W j))); rw [decide_eq_false e]; simp))
    · dsimp only at e
      rw [Bool.or_eq_true, Bool.and_eq_true, Bool.and_eq_true, decide_eq_true_eq, decide_eq_true_eq] at e
      rcases e with e | ⟨e1, e2, _⟩
      · exact hK.2.2 x y e
      · exact ⟨by omega, e2⟩
    · dsimp only at q
      rw [Bool.or_eq_true, Bool.and_eq_true, Bool.and_eq_true, decide_eq_true_eq, decide_eq_true_eq] at q
      rcases q with q | ⟨e1, e2, e3⟩
      · exact e x y q
      · rw [e1]; exact hs G hG e y e2 e3
    · refine crd_lt hsub (a := h) (b := z) (by omega) (by omega) y1.2 ?_
      simp [y1.1, c]
    · simp [e, hy]
theorem one_msk {p n : Nat} (hn : n ≤ 10) (hp : p < n) : (1 : Int32) <<< (nI p &&& 31) = nI (msk (fun z => decide (z = p)) n) := by
  rw [bit_nI (by omega)]
  refine congrArg nI (msk_eq (fun j => ?_))
  rw [Nat.testBit_two_pow]
  by_cases e : p = j
  · subst e; simp [hp]
  · have e' : ¬ j = p := fun c => e c.symm
    simp [e, e']
theorem sd {s : St} {G : Rel} (hG : cl5 s G) {r k a b : Nat} (h1 : 1 ≤ r) (h6 : r < 6) (hk : k < s 0) (ha : a < s 0) (hb : b < s 0) (q : qq s G r a b k = true) : G a b = true := hG a b ha hb (der_iff.mpr ⟨r, k, h1, h6, hk, q⟩)
/-- what the rules ask of x's reference to y -/
def F1 (s : St) (E : Rel) (x y : Nat) : Prop := dz s x 1 = true → dz s y 4 = true → ∀ z, z < s 0 → (E x z = true ∨ z = x) → E y z = true
def F3 (s : St) (E : Rel) (x y : Nat) : Prop := kz s y 3 = true → E x (s (11 + y)) = true ∧ ∀ z, z < s 0 → E y z = true → E (s (11 + y)) z = true
def F2 (s : St) (E : Rel) (x y : Nat) : Prop := (dz s y 8 = true → ∀ z, z < s 0 → E y z = true → E x z = true) ∧ (kz s y 1 = true → ff (qk s E x (s (11 + y))) 0 (s 0) < s 0 → E x (s (21 + y)) = true) ∧ F3 s E x y
theorem sg_X1_takeFrom_0 {Γ : Gam} {P : Int32 → Mem → Prop} (b : Nat) (hb : isCl b) (a2 a3 : Int32) {g : Mem} (h : (((bi (hasB (g 6 4) a3)) = 0 → AW Γ 2 iX1_takeFrom P 22 [some (.inr b), some (.inr 6), some (.inl a2), some (.inl a3)] [] g) ∧ (¬ (bi (hasB (g 6 4) a3)) = 0 → (vp_in a3 10 ∧ (Runs Γ 1 yX1_grant iX1_grant [.inr b, .inl a2, .inl (g (b + 1) a3.toNatClampNeg)] g (fun r1 g1 => AW Γ 2 iX1_takeFrom P 22 [some (.inr b), some (.inr 6), some (.inl a2), some (.inl a3)] [] g1)))))) : AW Γ 2 iX1_takeFrom P 0 [some (.inr b), some (.inr 6), some (.inl a2), some (.inl a3)] [] g :=
  (aw_aload_n dX1_takeFrom_0 rfl (aw_geti fkX1_63 fa_6_4 dX1_takeFrom_1 (aw_iload_n dX1_takeFrom_4 rfl (aw_callSNi nkX1_41 ckX6_contains (d := 1) (by decide) [.inl (g 6 4), .inl a3] rfl rfl (Nat.le_of_ble_eq_true rfl) dX1_takeFrom_5 rfl (Runs.fn ct_X6_contains (aw_if_eq 22 dX1_takeFrom_8 (by decide) (fun c1 => (aw_mask [true, true, true, true] rfl (h.1 c1))) (fun c1 => (aw_aload_n dX1_takeFrom_11 rfl (aw_iload_n dX1_takeFrom_12 rfl (aw_aload_n dX1_takeFrom_13 rfl (aw_getr (b + 1) fkX1_9 (fc_0 hb) dX1_takeFrom_14 (aw_iload_n dX1_takeFrom_17 rfl (aw_iald (ac_1 hb) dX1_takeFrom_18 (h.2 c1).1 (aw_callVv lkX1_55 ckX1_grant (cc_ hb) rfl (d := 1) (by decide) [.inl a2, .inl (g (b + 1) a3.toNatClampNeg)] rfl rfl (Nat.le_of_ble_eq_true rfl) dX1_takeFrom_19 rfl (Runs.mono (h.2 c1).2 (fun r1 g1 h1_ => (aw_mask [true, true, true, true] rfl h1_)))))))))))))))))
theorem sg_X1_takeFrom_22 {Γ : Gam} {P : Int32 → Mem → Prop} (b : Nat) (hb : isCl b) (a2 a3 : Int32) {g : Mem} (h : (vp_in a3 10 ∧ (vp_in a2 10 ∧ ((((g 8 a3.toNatClampNeg) &&& (g (b + 1) a2.toNatClampNeg)) = 0 → AW Γ 2 iX1_takeFrom P 52 [some (.inr b), some (.inr 6), some (.inl a2), some (.inl a3)] [] g) ∧ (¬ ((g 8 a3.toNatClampNeg) &&& (g (b + 1) a2.toNatClampNeg)) = 0 → (vp_in a3 10 ∧ (Runs Γ 1 yX1_grant iX1_grant [.inr b, .inl a2, .inl (1 <<< ((g 7 a3.toNatClampNeg) &&& 31))] g (fun r1 g1 => AW Γ 2 iX1_takeFrom P 52 [some (.inr b), some (.inr 6), some (.inl a2), some (.inl a3)] [] g1)))))))) : AW Γ 2 iX1_takeFrom P 22 [some (.inr b), some (.inr 6), some (.inl a2), some (.inl a3)] [] g :=
  (aw_aload_n dX1_takeFrom_22 rfl (aw_getr 8 fkX1_66 fa_6_8 dX1_takeFrom_23 (aw_iload_n dX1_takeFrom_26 rfl (aw_iald aa_8 dX1_takeFrom_27 h.1 (aw_aload_n dX1_takeFrom_28 rfl (aw_getr (b + 1) fkX1_9 (fc_0 hb) dX1_takeFrom_29 (aw_iload_n dX1_takeFrom_32 rfl (aw_iald (ac_1 hb) dX1_takeFrom_33 h.2.1 (aw_iand dX1_takeFrom_34 (aw_if_eq 52 dX1_takeFrom_35 (by decide) (fun c1 => (aw_mask [true, true, true, true] rfl (h.2.2.1 c1))) (fun c1 => (aw_aload_n dX1_takeFrom_38 rfl (aw_iload_n dX1_takeFrom_39 rfl (aw_aload_n dX1_takeFrom_40 rfl (aw_getr 7 fkX1_69 fa_6_7 dX1_takeFrom_41 (aw_iload_n dX1_takeFrom_44 rfl (aw_iald aa_7 dX1_takeFrom_45 (h.2.2.2 c1).1 (aw_callSNi nkX1_51 ckX6_bit (d := 1) (by decide) [.inl (g 7 a3.toNatClampNeg)] rfl rfl (Nat.le_of_ble_eq_true rfl) dX1_takeFrom_46 rfl (Runs.fn ct_X6_bit (aw_callVv lkX1_55 ckX1_grant (cc_ hb) rfl (d := 1) (by decide) [.inl a2, .inl (1 <<< ((g 7 a3.toNatClampNeg) &&& 31))] rfl rfl (Nat.le_of_ble_eq_true rfl) dX1_takeFrom_49 rfl (Runs.mono (h.2.2.2 c1).2 (fun r1 g1 h1_ => (aw_mask [true, true, true, true] rfl h1_)))))))))))))))))))))))
theorem sg_X1_takeFrom_52 {Γ : Gam} {P : Int32 → Mem → Prop} (b : Nat) (hb : isCl b) (a2 a3 : Int32) {g : Mem} (h : (((bi (hasB (g 6 5) a3)) = 0 → P 0 g) ∧ (¬ (bi (hasB (g 6 5) a3)) = 0 → (vp_in a3 10 ∧ (Runs Γ 1 yX1_grant iX1_grant [.inr b, .inl a2, .inl (1 <<< ((g 7 a3.toNatClampNeg) &&& 31))] g (fun r1 g1 => (vp_in a3 10 ∧ (vp_in a3 10 ∧ (Runs Γ 1 yX1_grant iX1_grant [.inr b, .inl (g1 7 a3.toNatClampNeg), .inl (g1 (b + 1) a3.toNatClampNeg)] g1 (fun r2 g2 => P 0 g2)))))))))) : AW Γ 2 iX1_takeFrom P 52 [some (.inr b), some (.inr 6), some (.inl a2), some (.inl a3)] [] g :=
  (aw_aload_n dX1_takeFrom_52 rfl (aw_geti fkX1_72 fa_6_5 dX1_takeFrom_53 (aw_iload_n dX1_takeFrom_56 rfl (aw_callSNi nkX1_41 ckX6_contains (d := 1) (by decide) [.inl (g 6 5), .inl a3] rfl rfl (Nat.le_of_ble_eq_true rfl) dX1_takeFrom_57 rfl (Runs.fn ct_X6_contains (aw_if_eq 93 dX1_takeFrom_60 (by decide) (fun c1 => (aw_vret rfl dX1_takeFrom_93 (h.1 c1))) (fun c1 => (aw_aload_n dX1_takeFrom_63 rfl (aw_iload_n dX1_takeFrom_64 rfl (aw_aload_n dX1_takeFrom_65 rfl (aw_getr 7 fkX1_69 fa_6_7 dX1_takeFrom_66 (aw_iload_n dX1_takeFrom_69 rfl (aw_iald aa_7 dX1_takeFrom_70 (h.2 c1).1 (aw_callSNi nkX1_51 ckX6_bit (d := 1) (by decide) [.inl (g 7 a3.toNatClampNeg)] rfl rfl (Nat.le_of_ble_eq_true rfl) dX1_takeFrom_71 rfl (Runs.fn ct_X6_bit (aw_callVv lkX1_55 ckX1_grant (cc_ hb) rfl (d := 1) (by decide) [.inl a2, .inl (1 <<< ((g 7 a3.toNatClampNeg) &&& 31))] rfl rfl (Nat.le_of_ble_eq_true rfl) dX1_takeFrom_74 rfl (Runs.mono (h.2 c1).2 (fun r1 g1 h1_ => (aw_aload_n dX1_takeFrom_77 rfl (aw_aload_n dX1_takeFrom_78 rfl (aw_getr 7 fkX1_69 fa_6_7 dX1_takeFrom_79 (aw_iload_n dX1_takeFrom_82 rfl (aw_iald aa_7 dX1_takeFrom_83 h1_.1 (aw_aload_n dX1_takeFrom_84 rfl (aw_getr (b + 1) fkX1_9 (fc_0 hb) dX1_takeFrom_85 (aw_iload_n dX1_takeFrom_88 rfl (aw_iald (ac_1 hb) dX1_takeFrom_89 h1_.2.1 (aw_callVv lkX1_55 ckX1_grant (cc_ hb) rfl (d := 1) (by decide) [.inl (g1 7 a3.toNatClampNeg), .inl (g1 (b + 1) a3.toNatClampNeg)] rfl rfl (Nat.le_of_ble_eq_true rfl) dX1_takeFrom_90 rfl (Runs.mono h1_.2.2 (fun r2 g2 h2_ => (aw_vret rfl dX1_takeFrom_93 h2_)))))))))))))))))))))))))))))))
theorem lp_X1_tf52 {Γ : Gam} {P : Int32 → Mem → Prop} {Cl : Rel → Prop} {s : St} {b : Nat} {E : Rel} {f : Bool} {g : Mem} {x y : Nat} (hb : isCl b) (hw : WF s) (hCl : ∀ G, Cl G → cl5 s G) (hR : RolesOk s g) (hK : KR s b E f g) (hx : x < s 0) (hy : y < s 0) (hd : dz s x 2 = true) (hE : E x y = true) (hP : ∀ E' f' g', Tr Cl s b E f g E' f' g' → (f' = false → F3 s E x y) → P 0 g') : AW Γ 2 iX1_takeFrom P 52 [some (.inr b), some (.inr 6), some (.inl (nI x)), some (.inl (nI y))] [] g := by
  have hn := hw.n
  refine sg_X1_takeFrom_52 b hb _ _ ?_
  rw [hR.2.2.2.2.2.1, has_msk hn hy, ix_nI (n := y) (by omega)]
  refine ⟨fun c => hP E f g (Tr.rf hK) (fun _ k3 => ?_), fun c => ⟨vp_nI (by omega) (by decide), ?_⟩⟩
  · rw [bi_eq0.mp c] at k3; cases k3
  · have k3 := bi_ne0.mp c
    have hk3 := (kz_t.mp k3).2
    have hp := ((hw.o hy).2.2.2.2.2 hk3).1
    have e7 := (hR.2.2.2.2.2.2.2 y hy).1.2 hk3
    rw [e7, one_msk hn hp]
    refine (ct_X1_grant (Cl := Cl) hb hw hK hx (fun G hG e z hz w => ?_)).mono (fun _ g1 q => ?_)
    · rw [decide_eq_true_eq] at w
      rw [w]
      refine sd (hCl G hG) (r := 4) (k := y) (by decide) (by decide) hy hx hp ?_
      rw [qq4, hd]
      unfold q4
      rw [k3, e x y hE, decide_eq_true rfl]; rfl
    · obtain ⟨E1, f1, t1, w1⟩ := q
      have hR1 := hR.tr hb t1
      have hb9 := hb.lt
      rw [(hR1.2.2.2.2.2.2.2 y hy).1.2 hk3, t1.2.1.1 y hy]
      refine ⟨vp_nI (by omega) (by decide), vp_nI (by omega) (by decide), (ct_X1_grant (Cl := Cl) hb hw t1.2.1 hp (fun G hG e z hz w => ?_)).mono (fun _ g2 q2 => ?_)⟩
      · refine sd (hCl G hG) (r := 5) (k := y) (by decide) (by decide) hy hp hz ?_
        rw [qq5, Bool.true_and]
        unfold q5
        have hu : ff (qu s G y) 0 (s 0) < s 0 := by
          have := (ff_lt (qu s G y) (s 0) 0).mpr ⟨x, Nat.zero_le _, by omega, by unfold qu; rw [hd, e x y (t1.2.2.1 x y hE)]; rfl⟩
          omega
        rw [k3, e y z w, decide_eq_true rfl, decide_eq_true hu]; rfl
      · obtain ⟨E2, f2, t2, w2⟩ := q2
        refine hP E2 f2 g2 (t1.trans t2) (fun ef _ => ?_)
        obtain ⟨a1, a2⟩ := t2.still ef
        obtain ⟨a3, a4⟩ := t1.still a1
        rw [a2, a4] at w2
        rw [a4] at w1
        exact ⟨w1 _ hp (decide_eq_true rfl), fun z hz e => w2 z hz e⟩
theorem lp_X1_tf22 {Γ : Gam} {P : Int32 → Mem → Prop} {Cl : Rel → Prop} {s : St} {b : Nat} {E : Rel} {f : Bool} {g : Mem} {x y : Nat} (hb : isCl b) (hw : WF s) (hCl : ∀ G, Cl G → cl5 s G) (hR : RolesOk s g) (hK : KR s b E f g) (hx : x < s 0) (hy : y < s 0) (hd : dz s x 2 = true) (hE : E x y = true) (hP : ∀ E' f' g', Tr Cl s b E f g E' f' g' → (f' = false → (kz s y 1 = true → ff (qk s E x (s (11 + y))) 0 (s 0) < s 0 → E x (s (21 + y)) = true) ∧ F3 s E x y) → P 0 g') : AW Γ 2 iX1_takeFrom P 22 [some (.inr b), some (.inr 6), some (.inl (nI x)), some (.inl (nI y))] [] g := by
  have hn := hw.n
  refine sg_X1_takeFrom_22 b hb _ _ ?_
  rw [ix_nI (n := y) (by omega), ix_nI (n := x) (by omega), op_row hR hy, hK.1 x hx, fa_and', Nat.and_comm]
  by_cases k1 : kz s y 1 = true
  · rw [msk_zero hn (op_bits k1)]
    refine ⟨vp_nI (by omega) (by decide), vp_nI (by omega) (by decide), fun c => ?_, fun c => ⟨vp_nI (by omega) (by decide), ?_⟩⟩
    · exact lp_X1_tf52 hb hw hCl hR hK hx hy hd hE (fun E1 f1 g1 t1 w1 => hP E1 f1 g1 t1 (fun e => ⟨fun _ c2 => absurd c2 c, w1 e⟩))
    · rw [Decidable.not_not] at c
      have hk1 := (kz_t.mp k1).2
      have hp := ((hw.o hy).2.2.2.1 hk1).2
      rw [(hR.2.2.2.2.2.2.2 y hy).1.1 hk1, one_msk hn hp]
      refine (ct_X1_grant (Cl := Cl) hb hw hK hx (fun G hG e z hz w => ?_)).mono (fun _ g1 q => ?_)
      · rw [decide_eq_true_eq] at w
        rw [w]
        refine sd (hCl G hG) (r := 3) (k := y) (by decide) (by decide) hy hx hp ?_
        rw [qq3, hd]
        unfold q3
        have hu : ff (qk s G x (s (11 + y))) 0 (s 0) < s 0 := by
          refine ff_mono (fun j hj => ?_) c
          unfold qk at hj ⊢
          rw [Bool.and_eq_true, Bool.and_eq_true] at hj ⊢
          exact ⟨hj.1, hj.2.1, e _ _ hj.2.2⟩
        rw [k1, e x y hE, decide_eq_true rfl, decide_eq_true hu]; rfl
      · obtain ⟨E1, f1, t1, w1⟩ := q
        refine lp_X1_tf52 hb hw hCl (hR.tr hb t1) t1.2.1 hx hy hd (t1.2.2.1 x y hE) (fun E2 f2 g2 t2 w2 => hP E2 f2 g2 (t1.trans t2) (fun e => ?_))
        obtain ⟨a1, a2⟩ := t2.still e
        obtain ⟨a3, a4⟩ := t1.still a1
        have w3 := w2 e
        rw [a4] at w3 w1
        exact ⟨fun _ _ => w1 _ hp (decide_eq_true rfl), w3⟩
  · have e0 : msk (E x) (s 0) &&& msk (opn s y) (s 0) = 0 := by
      apply Nat.eq_of_testBit_eq
      intro j
      rw [Nat.testBit_and, msk_bit, msk_bit, Nat.zero_testBit]
      unfold opn
      rw [Bool.eq_false_iff.mpr k1]
      simp
    rw [e0]
    refine ⟨vp_nI (by omega) (by decide), vp_nI (by omega) (by decide), fun c => ?_, fun c => absurd rfl c⟩
    exact lp_X1_tf52 hb hw hCl hR hK hx hy hd hE (fun E1 f1 g1 t1 w1 => hP E1 f1 g1 t1 (fun e => ⟨fun c2 => absurd c2 k1, w1 e⟩))
theorem ct_X1_takeFrom {Γ : Gam} {Cl : Rel → Prop} {s : St} {b : Nat} {E : Rel} {f : Bool} {g : Mem} {x y : Nat} (hb : isCl b) (hw : WF s) (hCl : ∀ G, Cl G → cl5 s G) (hR : RolesOk s g) (hK : KR s b E f g) (hx : x < s 0) (hy : y < s 0) (hd : dz s x 2 = true) (hE : E x y = true) : Runs Γ 2 yX1_takeFrom iX1_takeFrom [.inr b, .inr 6, .inl (nI x), .inl (nI y)] g (fun _ g' => ∃ E' f', Tr Cl s b E f g E' f' g' ∧ (f' = false → F2 s E x y)) := by
  have hn := hw.n
  refine Runs.intro (by decide) rfl (Nat.le_of_ble_eq_true rfl) (sg_X1_takeFrom_0 b hb _ _ ?_)
  rw [hR.2.2.2.2.1, has_msk hn hy, ix_nI (n := y) (by omega)]
  refine ⟨fun c => ?_, fun c => ⟨vp_nI (by omega) (by decide), ?_⟩⟩
  · refine lp_X1_tf22 hb hw hCl hR hK hx hy hd hE (fun E1 f1 g1 t1 w1 => ⟨E1, f1, t1, fun e => ⟨fun c2 => ?_, w1 e⟩⟩)
    rw [bi_eq0.mp c] at c2; cases c2
  · have k8 := bi_ne0.mp c
    rw [hK.1 y hy]
    refine (ct_X1_grant (Cl := Cl) hb hw hK hx (fun G hG e z hz w => ?_)).mono (fun _ g1 q => ?_)
    · refine sd (hCl G hG) (r := 2) (k := y) (by decide) (by decide) hy hx hz ?_
      rw [qq2, hd]
      unfold q2
      rw [k8, e x y hE, e y z w]; rfl
    · obtain ⟨E1, f1, t1, w1⟩ := q
      refine lp_X1_tf22 hb hw hCl (hR.tr hb t1) t1.2.1 hx hy hd (t1.2.2.1 x y hE) (fun E2 f2 g2 t2 w2 => ⟨E2, f2, t1.trans t2, fun e => ?_⟩)
      obtain ⟨a1, a2⟩ := t2.still e
      obtain ⟨a3, a4⟩ := t1.still a1
      have w3 := w2 e
      rw [a4] at w3 w1
      exact ⟨fun _ z hz ez => w1 z hz ez, w3⟩
