/-! The reference's search for a rule and a partner. -/
theorem inR_ob {n : Nat} {x : Int32} (h : inR n x = true) : ∃ j, j < n ∧ x = nI j := ⟨x.toNatClampNeg, inR_ex h⟩
theorem kz_nI {s : St} (hw : WF s) {x k : Nat} (hx : x < 2 ^ 31) (hk : k < 2 ^ 31) : isK s (nI x) (nI k) = kz s x k := by
  unfold isK kz
  rw [inR_nI hx, ix_nI hx]
  by_cases h : x < s 0
  · have := hw.kd h
    simp only [h, decide_true, Bool.true_and]
    exact decide_eq_decide.mpr (nI_eq (by omega) hk)
  · simp [h]
theorem kz0 {s : St} (hw : WF s) {x : Nat} (hx : x < 2 ^ 31) : isK s (nI x) 0 = kz s x 0 := kz_nI hw hx (by decide)
theorem kz1 {s : St} (hw : WF s) {x : Nat} (hx : x < 2 ^ 31) : isK s (nI x) 1 = kz s x 1 := kz_nI hw hx (by decide)
theorem kz2 {s : St} (hw : WF s) {x : Nat} (hx : x < 2 ^ 31) : isK s (nI x) 2 = kz s x 2 := kz_nI hw hx (by decide)
theorem kz3 {s : St} (hw : WF s) {x : Nat} (hx : x < 2 ^ 31) : isK s (nI x) 3 = kz s x 3 := kz_nI hw hx (by decide)
theorem dz_nI {s : St} (hw : WF s) {x f : Nat} (hx : x < 2 ^ 31) (hf : f < 2 ^ 31) : isW s (nI x) (nI f) = dz s x f := by
  unfold isW dz
  rw [kz0 hw hx, ix_nI hx]
  unfold kz
  by_cases h : x < s 0
  · have := hw.fi h
    have e : s (11 + x) &&& f ≤ 15 := Nat.le_trans Nat.and_le_left this
    rw [fa_and', show (0 : Int32) = nI 0 from rfl]
    simp only [h, decide_true, Bool.true_and]
    congr 1
    exact decide_eq_decide.mpr (not_congr (nI_eq (by omega) (by decide)))
  · simp [h]
theorem dz1 {s : St} (hw : WF s) {x : Nat} (hx : x < 2 ^ 31) : isW s (nI x) 1 = dz s x 1 := dz_nI hw hx (by decide)
theorem dz2 {s : St} (hw : WF s) {x : Nat} (hx : x < 2 ^ 31) : isW s (nI x) 2 = dz s x 2 := dz_nI hw hx (by decide)
theorem dz4 {s : St} (hw : WF s) {x : Nat} (hx : x < 2 ^ 31) : isW s (nI x) 4 = dz s x 4 := dz_nI hw hx (by decide)
theorem dz8 {s : St} (hw : WF s) {x : Nat} (hx : x < 2 ^ 31) : isW s (nI x) 8 = dz s x 8 := dz_nI hw hx (by decide)
/-- what the rounds in g say was found before t -/
def eB (s : St) (g : Mem) (t : Int32) : Rel := fun x y => decide (x < s 0) && (decide (y < s 0) && (decide (¬ g 31 (10 * x + y) = -9) && decide (¬ t ≤ g 31 (10 * x + y))))
theorem sg_X7_isFound_0 {Γ : Gam} {P : Int32 → Mem → Prop}  (a1 a2 a3 : Int32) {g : Mem} (h : (vp_in ((10 * a1) + a2) 100 ∧ (((g 31 ((10 * a1) + a2).toNatClampNeg) = (-9) → P 0 g) ∧ (¬ (g 31 ((10 * a1) + a2).toNatClampNeg) = (-9) → ((a3 ≤ (g 31 ((10 * a1) + a2).toNatClampNeg) → P 0 g) ∧ (¬ (a3 ≤ (g 31 ((10 * a1) + a2).toNatClampNeg)) → P 1 g)))))) : AW Γ 1 iX7_isFound P 0 [some (.inr 26), some (.inl a1), some (.inl a2), some (.inl a3)] [] g :=
  (aw_aload_n dX7_isFound_0 rfl (aw_getr 31 fkX7_22 fa_26_12 dX7_isFound_1 (aw_bipush 10 dX7_isFound_4 (by decide) (aw_iload_n dX7_isFound_6 rfl (aw_imul dX7_isFound_7 (aw_iload_n dX7_isFound_8 rfl (aw_iadd dX7_isFound_9 (aw_iald aa_31 dX7_isFound_10 h.1 (aw_istore [some (.inr 26), some (.inl a1), some (.inl a2), some (.inl a3), some (.inl (g 31 ((10 * a1) + a2).toNatClampNeg))] dX7_isFound_11 (by decide) rfl (aw_iload dX7_isFound_13 rfl (aw_bipush (-9) dX7_isFound_15 (by decide) (aw_icmp_eq 30 dX7_isFound_17 (by decide) (fun c1 => (aw_iconst 0 dX7_isFound_30 (by decide) (aw_iret rfl (by decide) dX7_isFound_31 (h.2.1 c1)))) (fun c1 => (aw_iload dX7_isFound_20 rfl (aw_iload_n dX7_isFound_22 rfl (aw_icmp_ge 30 dX7_isFound_23 (by decide) (fun c2 => (aw_iconst 0 dX7_isFound_30 (by decide) (aw_iret rfl (by decide) dX7_isFound_31 ((h.2.2 c1).1 c2)))) (fun c2 => (aw_iconst 1 dX7_isFound_26 (by decide) (aw_goto 31 dX7_isFound_27 (by decide) (aw_iret rfl (by decide) dX7_isFound_31 ((h.2.2 c1).2 c2)))))))))))))))))))))
theorem ct_X7_isFound {Γ : Gam} {s : St} {g : Mem} {x y t : Int32} (h : MW 27 s g ∧ inR (s 0) x = true ∧ inR (s 0) y = true) : Runs Γ 1 yX7_isFound iX7_isFound [.inr 26, .inl x, .inl y, .inl t] g (fun r g' => r = bi (eB s g t x.toNatClampNeg y.toNatClampNeg) ∧ g' = g) := by
  obtain ⟨h, jx, jy⟩ := h
  obtain ⟨x, hx, rfl⟩ := inR_ob jx
  obtain ⟨y, hy, rfl⟩ := inR_ob jy
  have hn := h.2.n
  refine Runs.intro (by decide) rfl (Nat.le_of_ble_eq_true rfl) (sg_X7_isFound_0 _ _ t ?_)
  rw [pair_nI', ix_nI (by omega), ix_nI (by omega), ix_nI (by omega)]
  refine ⟨vp_nI (by omega) (by decide), fun c => ?_, fun c => ⟨fun c2 => ?_, fun c2 => ?_⟩⟩
  · simp [eB, c, bi]
  · simp [eB, c2, bi]
  · simp [eB, c, c2, hx, hy, bi]
theorem ff_all {p : Nat → Bool} {n : Nat} (h : ∀ j, j < n → p j = false) : ff p 0 n = n := by
  have hb := ff_bounds p n 0
  rcases Nat.lt_or_ge (ff p 0 n) n with q | q
  · have := ff_yes p n 0 (by omega)
    rw [h _ q] at this
    cases this
  · omega
theorem sg_X7_giver_0 {Γ : Gam} {P : Int32 → Mem → Prop}  (a1 a2 a3 : Int32) {g : Mem} (h : AW Γ 5 iX7_giver P 3 [some (.inr 26), some (.inl a1), some (.inl a2), some (.inl a3), some (.inl 0)] [] g) : AW Γ 5 iX7_giver P 0 [some (.inr 26), some (.inl a1), some (.inl a2), some (.inl a3)] [] g :=
  (aw_iconst 0 dX7_giver_0 (by decide) (aw_istore [some (.inr 26), some (.inl a1), some (.inl a2), some (.inl a3), some (.inl 0)] dX7_giver_1 (by decide) rfl (aw_mask [true, true, true, true, true] rfl h)))
theorem sg_X7_giver_3 {Γ : Gam} {P : Int32 → Mem → Prop}  (s : St) (a1 a2 a3 a4 : Int32) {g : Mem} (h : (((g 27 0) ≤ a4 → P (-9) g) ∧ (¬ ((g 27 0) ≤ a4) → (MW 27 s g ∧ (((bi (isW s a1 4)) = 0 → P (-9) g) ∧ (¬ (bi (isW s a1 4)) = 0 → (MW 27 s g ∧ (((bi (isW s a4 1)) = 0 → AW Γ 5 iX7_giver P 3 [some (.inr 26), some (.inl a1), some (.inl a2), some (.inl a3), some (.inl (a4 + 1))] [] g) ∧ (¬ (bi (isW s a4 1)) = 0 → ((MW 27 s g ∧ inR (s 0) a4 = true ∧ inR (s 0) a1 = true) ∧ (((bi (eB s g a3 a4.toNatClampNeg a1.toNatClampNeg)) = 0 → AW Γ 5 iX7_giver P 3 [some (.inr 26), some (.inl a1), some (.inl a2), some (.inl a3), some (.inl (a4 + 1))] [] g) ∧ (¬ (bi (eB s g a3 a4.toNatClampNeg a1.toNatClampNeg)) = 0 → ((a4 = a2 → P a4 g) ∧ (¬ a4 = a2 → ((MW 27 s g ∧ inR (s 0) a4 = true ∧ inR (s 0) a2 = true) ∧ (((bi (eB s g a3 a4.toNatClampNeg a2.toNatClampNeg)) = 0 → AW Γ 5 iX7_giver P 3 [some (.inr 26), some (.inl a1), some (.inl a2), some (.inl a3), some (.inl (a4 + 1))] [] g) ∧ (¬ (bi (eB s g a3 a4.toNatClampNeg a2.toNatClampNeg)) = 0 → P a4 g))))))))))))))))) : AW Γ 5 iX7_giver P 3 [some (.inr 26), some (.inl a1), some (.inl a2), some (.inl a3), some (.inl a4)] [] g :=
  (aw_iload dX7_giver_3 rfl (aw_aload_n dX7_giver_5 rfl (aw_getr 27 fkX7_7 fa_26_1 dX7_giver_6 (aw_iconst 0 dX7_giver_9 (by decide) (aw_iald aa_27 dX7_giver_10 (vp_lit 0 (by decide) (by decide)) (aw_icmp_ge 70 dX7_giver_11 (by decide) (fun c1 => (aw_bipush (-9) dX7_giver_70 (by decide) (aw_iret rfl (vp_nar_int _) dX7_giver_72 (h.1 c1)))) (fun c1 => (aw_aload_n dX7_giver_14 rfl (aw_iload_n dX7_giver_15 rfl (aw_iconst 4 dX7_giver_16 (by decide) (aw_callVi lkX7_119 ckX7_does ca_26 rfl (d := 4) (by decide) [.inl a1, .inl 4] rfl rfl (Nat.le_of_ble_eq_true rfl) dX7_giver_17 rfl (Runs.fn (ct_X7_does (h.2 c1).1) (aw_if_eq 70 dX7_giver_20 (by decide) (fun c2 => (aw_bipush (-9) dX7_giver_70 (by decide) (aw_iret rfl (vp_nar_int _) dX7_giver_72 ((h.2 c1).2.1 c2)))) (fun c2 => (aw_aload_n dX7_giver_23 rfl (aw_iload dX7_giver_24 rfl (aw_iconst 1 dX7_giver_26 (by decide) (aw_callVi lkX7_119 ckX7_does ca_26 rfl (d := 4) (by decide) [.inl a4, .inl 1] rfl rfl (Nat.le_of_ble_eq_true rfl) dX7_giver_27 rfl (Runs.fn (ct_X7_does ((h.2 c1).2.2 c2).1) (aw_if_eq 64 dX7_giver_30 (by decide) (fun c3 => (aw_iinc (a4 + 1) [some (.inr 26), some (.inl a1), some (.inl a2), some (.inl a3), some (.inl (a4 + 1))] dX7_giver_64 rfl (by rfl) (by decide) rfl (aw_goto 3 dX7_giver_67 (by decide) (aw_mask [true, true, true, true, true] rfl (((h.2 c1).2.2 c2).2.1 c3))))) (fun c3 => (aw_aload_n dX7_giver_33 rfl (aw_iload dX7_giver_34 rfl (aw_iload_n dX7_giver_36 rfl (aw_iload_n dX7_giver_37 rfl (aw_callVi lkX7_122 ckX7_isFound ca_26 rfl (d := 1) (by decide) [.inl a4, .inl a1, .inl a3] rfl rfl (Nat.le_of_ble_eq_true rfl) dX7_giver_38 rfl (Runs.fn (ct_X7_isFound (((h.2 c1).2.2 c2).2.2 c3).1) (aw_if_eq 64 dX7_giver_41 (by decide) (fun c4 => (aw_iinc (a4 + 1) [some (.inr 26), some (.inl a1), some (.inl a2), some (.inl a3), some (.inl (a4 + 1))] dX7_giver_64 rfl (by rfl) (by decide) rfl (aw_goto 3 dX7_giver_67 (by decide) (aw_mask [true, true, true, true, true] rfl ((((h.2 c1).2.2 c2).2.2 c3).2.1 c4))))) (fun c4 => (aw_iload dX7_giver_44 rfl (aw_iload_n dX7_giver_46 rfl (aw_icmp_eq 61 dX7_giver_47 (by decide) (fun c5 => (aw_iload dX7_giver_61 rfl (aw_iret rfl (vp_nar_int _) dX7_giver_63 (((((h.2 c1).2.2 c2).2.2 c3).2.2 c4).1 c5)))) (fun c5 => (aw_aload_n dX7_giver_50 rfl (aw_iload dX7_giver_51 rfl (aw_iload_n dX7_giver_53 rfl (aw_iload_n dX7_giver_54 rfl (aw_callVi lkX7_122 ckX7_isFound ca_26 rfl (d := 1) (by decide) [.inl a4, .inl a2, .inl a3] rfl rfl (Nat.le_of_ble_eq_true rfl) dX7_giver_55 rfl (Runs.fn (ct_X7_isFound (((((h.2 c1).2.2 c2).2.2 c3).2.2 c4).2 c5).1) (aw_if_eq 64 dX7_giver_58 (by decide) (fun c6 => (aw_iinc (a4 + 1) [some (.inr 26), some (.inl a1), some (.inl a2), some (.inl a3), some (.inl (a4 + 1))] dX7_giver_64 rfl (by rfl) (by decide) rfl (aw_goto 3 dX7_giver_67 (by decide) (aw_mask [true, true, true, true, true] rfl ((((((h.2 c1).2.2 c2).2.2 c3).2.2 c4).2 c5).2.1 c6))))) (fun c6 => (aw_iload dX7_giver_61 rfl (aw_iret rfl (vp_nar_int _) dX7_giver_63 ((((((h.2 c1).2.2 c2).2.2 c3).2.2 c4).2 c5).2.2 c6))))))))))))))))))))))))))))))))))))))))))))
theorem lp_X7_giver {Γ : Gam} {P : Int32 → Mem → Prop} {s : St} {g : Mem} {a b : Nat} {t : Int32} (h : MW 27 s g) (ha : a < s 0) (hb : b < s 0) (hP : P (fI (-9) (qq s (eB s g t) 1 a b) (s 0)) g) : ∀ n i, i + n = s 0 → ff (qq s (eB s g t) 1 a b) 0 (s 0) = ff (qq s (eB s g t) 1 a b) i n → AW Γ 5 iX7_giver P 3 [some (.inr 26), some (.inl (nI a)), some (.inl (nI b)), some (.inl t), some (.inl (nI i))] [] g := by
  intro n
  have hn := h.2.n
  induction n with
  | zero =>
    intro i hi hf
    refine sg_X7_giver_3 s _ _ t _ ?_
    rw [h.at (show 0 < 81 by decide)]
    refine ⟨fun _ => ?_, fun c => absurd (nI_le (by omega) (by omega)) c⟩
    rw [fI_none (by rw [hf, ff]; omega)] at hP
    exact hP
  | succ n ih =>
    intro i hi hf
    refine sg_X7_giver_3 s _ _ t _ ?_
    rw [h.at (show 0 < 81 by decide), nI_1, ix_nI (n := a) (by omega), ix_nI (n := b) (by omega), ix_nI (n := i) (by omega), dz4 h.2 (by omega), dz1 h.2 (by omega), inR_nI (by omega), inR_nI (by omega), inR_nI (by omega), nI_eq (by omega) (by omega)]
    have nx : qq s (eB s g t) 1 a b i = false → AW Γ 5 iX7_giver P 3 [some (.inr 26), some (.inl (nI a)), some (.inl (nI b)), some (.inl t), some (.inl (nI (i + 1)))] [] g := fun e => ih (i + 1) (by omega) (by rw [hf, ff_F e])
    have yes : qq s (eB s g t) 1 a b i = true → P (nI i) g := fun e => by
      rw [fI_at (i := i) (by rw [hf, ff_T e]) (by omega)] at hP
      exact hP
    refine ⟨fun c => absurd c (nI_ge (by omega) (by omega)), fun _ => ⟨h, fun c1 => ?_, fun c1 => ⟨h, fun c2 => ?_, fun c2 => ⟨⟨h, by simp; omega, by simp; omega⟩, fun c3 => ?_, fun c3 => ⟨fun c4 => ?_, fun c4 => ⟨⟨h, by simp; omega, by simp; omega⟩, fun c5 => ?_, fun c5 => ?_⟩⟩⟩⟩⟩⟩
    · rw [bi_eq0] at c1
      rw [fI_none (ff_all (fun j _ => by simp [qq, c1]))] at hP
      exact hP
    · rw [bi_eq0] at c2; exact nx (by simp [qq, q1, c2])
    · rw [bi_eq0] at c3; exact nx (by simp [qq, q1, c3])
    · rw [bi_ne0] at c1 c2 c3; subst c4; exact yes (by simp [qq, q1, c1, c2, c3])
    · rw [bi_eq0] at c5; exact nx (by simp [qq, q1, c4, c5])
    · rw [bi_ne0] at c1 c2 c3 c5; exact yes (by simp [qq, q1, c1, c2, c3, c5])
theorem ct_X7_giver {Γ : Gam} {s : St} {g : Mem} {x y t : Int32} (h : MW 27 s g ∧ inR (s 0) x = true ∧ inR (s 0) y = true) : Runs Γ 5 yX7_giver iX7_giver [.inr 26, .inl x, .inl y, .inl t] g (fun r g' => r = fI (-9) (qq s (eB s g t) 1 x.toNatClampNeg y.toNatClampNeg) (s 0) ∧ g' = g) := by
  obtain ⟨h, jx, jy⟩ := h
  obtain ⟨x, hx, rfl⟩ := inR_ob jx
  obtain ⟨y, hy, rfl⟩ := inR_ob jy
  have hn := h.2.n
  rw [ix_nI (by omega), ix_nI (by omega)]
  exact Runs.intro (by decide) rfl (Nat.le_of_ble_eq_true rfl) (sg_X7_giver_0 _ _ t (lp_X7_giver h hx hy ⟨rfl, rfl⟩ (s 0) 0 (by omega) rfl))
theorem sg_X7_answerer_0 {Γ : Gam} {P : Int32 → Mem → Prop}  (a1 a2 a3 : Int32) {g : Mem} (h : AW Γ 5 iX7_answerer P 3 [some (.inr 26), some (.inl a1), some (.inl a2), some (.inl a3), some (.inl 0)] [] g) : AW Γ 5 iX7_answerer P 0 [some (.inr 26), some (.inl a1), some (.inl a2), some (.inl a3)] [] g :=
  (aw_iconst 0 dX7_answerer_0 (by decide) (aw_istore [some (.inr 26), some (.inl a1), some (.inl a2), some (.inl a3), some (.inl 0)] dX7_answerer_1 (by decide) rfl (aw_mask [true, true, true, true, true] rfl h)))
theorem sg_X7_answerer_3 {Γ : Gam} {P : Int32 → Mem → Prop}  (s : St) (a1 a2 a3 a4 : Int32) {g : Mem} (h : (((g 27 0) ≤ a4 → P (-9) g) ∧ (¬ ((g 27 0) ≤ a4) → (MW 27 s g ∧ (((bi (isW s a1 2)) = 0 → P (-9) g) ∧ (¬ (bi (isW s a1 2)) = 0 → (MW 27 s g ∧ (((bi (isW s a4 8)) = 0 → AW Γ 5 iX7_answerer P 3 [some (.inr 26), some (.inl a1), some (.inl a2), some (.inl a3), some (.inl (a4 + 1))] [] g) ∧ (¬ (bi (isW s a4 8)) = 0 → ((MW 27 s g ∧ inR (s 0) a1 = true ∧ inR (s 0) a4 = true) ∧ (((bi (eB s g a3 a1.toNatClampNeg a4.toNatClampNeg)) = 0 → AW Γ 5 iX7_answerer P 3 [some (.inr 26), some (.inl a1), some (.inl a2), some (.inl a3), some (.inl (a4 + 1))] [] g) ∧ (¬ (bi (eB s g a3 a1.toNatClampNeg a4.toNatClampNeg)) = 0 → ((MW 27 s g ∧ inR (s 0) a4 = true ∧ inR (s 0) a2 = true) ∧ (((bi (eB s g a3 a4.toNatClampNeg a2.toNatClampNeg)) = 0 → AW Γ 5 iX7_answerer P 3 [some (.inr 26), some (.inl a1), some (.inl a2), some (.inl a3), some (.inl (a4 + 1))] [] g) ∧ (¬ (bi (eB s g a3 a4.toNatClampNeg a2.toNatClampNeg)) = 0 → P a4 g))))))))))))))) : AW Γ 5 iX7_answerer P 3 [some (.inr 26), some (.inl a1), some (.inl a2), some (.inl a3), some (.inl a4)] [] g :=
  (aw_iload dX7_answerer_3 rfl (aw_aload_n dX7_answerer_5 rfl (aw_getr 27 fkX7_7 fa_26_1 dX7_answerer_6 (aw_iconst 0 dX7_answerer_9 (by decide) (aw_iald aa_27 dX7_answerer_10 (vp_lit 0 (by decide) (by decide)) (aw_icmp_ge 65 dX7_answerer_11 (by decide) (fun c1 => (aw_bipush (-9) dX7_answerer_65 (by decide) (aw_iret rfl (vp_nar_int _) dX7_answerer_67 (h.1 c1)))) (fun c1 => (aw_aload_n dX7_answerer_14 rfl (aw_iload_n dX7_answerer_15 rfl (aw_iconst 2 dX7_answerer_16 (by decide) (aw_callVi lkX7_119 ckX7_does ca_26 rfl (d := 4) (by decide) [.inl a1, .inl 2] rfl rfl (Nat.le_of_ble_eq_true rfl) dX7_answerer_17 rfl (Runs.fn (ct_X7_does (h.2 c1).1) (aw_if_eq 65 dX7_answerer_20 (by decide) (fun c2 => (aw_bipush (-9) dX7_answerer_65 (by decide) (aw_iret rfl (vp_nar_int _) dX7_answerer_67 ((h.2 c1).2.1 c2)))) (fun c2 => (aw_aload_n dX7_answerer_23 rfl (aw_iload dX7_answerer_24 rfl (aw_bipush 8 dX7_answerer_26 (by decide) (aw_callVi lkX7_119 ckX7_does ca_26 rfl (d := 4) (by decide) [.inl a4, .inl 8] rfl rfl (Nat.le_of_ble_eq_true rfl) dX7_answerer_28 rfl (Runs.fn (ct_X7_does ((h.2 c1).2.2 c2).1) (aw_if_eq 59 dX7_answerer_31 (by decide) (fun c3 => (aw_iinc (a4 + 1) [some (.inr 26), some (.inl a1), some (.inl a2), some (.inl a3), some (.inl (a4 + 1))] dX7_answerer_59 rfl (by rfl) (by decide) rfl (aw_goto 3 dX7_answerer_62 (by decide) (aw_mask [true, true, true, true, true] rfl (((h.2 c1).2.2 c2).2.1 c3))))) (fun c3 => (aw_aload_n dX7_answerer_34 rfl (aw_iload_n dX7_answerer_35 rfl (aw_iload dX7_answerer_36 rfl (aw_iload_n dX7_answerer_38 rfl (aw_callVi lkX7_122 ckX7_isFound ca_26 rfl (d := 1) (by decide) [.inl a1, .inl a4, .inl a3] rfl rfl (Nat.le_of_ble_eq_true rfl) dX7_answerer_39 rfl (Runs.fn (ct_X7_isFound (((h.2 c1).2.2 c2).2.2 c3).1) (aw_if_eq 59 dX7_answerer_42 (by decide) (fun c4 => (aw_iinc (a4 + 1) [some (.inr 26), some (.inl a1), some (.inl a2), some (.inl a3), some (.inl (a4 + 1))] dX7_answerer_59 rfl (by rfl) (by decide) rfl (aw_goto 3 dX7_answerer_62 (by decide) (aw_mask [true, true, true, true, true] rfl ((((h.2 c1).2.2 c2).2.2 c3).2.1 c4))))) (fun c4 => (aw_aload_n dX7_answerer_45 rfl (aw_iload dX7_answerer_46 rfl (aw_iload_n dX7_answerer_48 rfl (aw_iload_n dX7_answerer_49 rfl (aw_callVi lkX7_122 ckX7_isFound ca_26 rfl (d := 1) (by decide) [.inl a4, .inl a2, .inl a3] rfl rfl (Nat.le_of_ble_eq_true rfl) dX7_answerer_50 rfl (Runs.fn (ct_X7_isFound ((((h.2 c1).2.2 c2).2.2 c3).2.2 c4).1) (aw_if_eq 59 dX7_answerer_53 (by decide) (fun c5 => (aw_iinc (a4 + 1) [some (.inr 26), some (.inl a1), some (.inl a2), some (.inl a3), some (.inl (a4 + 1))] dX7_answerer_59 rfl (by rfl) (by decide) rfl (aw_goto 3 dX7_answerer_62 (by decide) (aw_mask [true, true, true, true, true] rfl (((((h.2 c1).2.2 c2).2.2 c3).2.2 c4).2.1 c5))))) (fun c5 => (aw_iload dX7_answerer_56 rfl (aw_iret rfl (vp_nar_int _) dX7_answerer_58 (((((h.2 c1).2.2 c2).2.2 c3).2.2 c4).2.2 c5))))))))))))))))))))))))))))))))))))))))
theorem lp_X7_answerer {Γ : Gam} {P : Int32 → Mem → Prop} {s : St} {g : Mem} {a b : Nat} {t : Int32} (h : MW 27 s g) (ha : a < s 0) (hb : b < s 0) (hP : P (fI (-9) (qq s (eB s g t) 2 a b) (s 0)) g) : ∀ n i, i + n = s 0 → ff (qq s (eB s g t) 2 a b) 0 (s 0) = ff (qq s (eB s g t) 2 a b) i n → AW Γ 5 iX7_answerer P 3 [some (.inr 26), some (.inl (nI a)), some (.inl (nI b)), some (.inl t), some (.inl (nI i))] [] g := by
  intro n
  have hn := h.2.n
  induction n with
  | zero =>
    intro i hi hf
    refine sg_X7_answerer_3 s _ _ t _ ?_
    rw [h.at (show 0 < 81 by decide)]
    refine ⟨fun _ => ?_, fun c => absurd (nI_le (by omega) (by omega)) c⟩
    rw [fI_none (by rw [hf, ff]; omega)] at hP
    exact hP
  | succ n ih =>
    intro i hi hf
    refine sg_X7_answerer_3 s _ _ t _ ?_
    rw [h.at (show 0 < 81 by decide), nI_1, ix_nI (n := a) (by omega), ix_nI (n := b) (by omega), ix_nI (n := i) (by omega), dz2 h.2 (by omega), dz8 h.2 (by omega), inR_nI (by omega), inR_nI (by omega), inR_nI (by omega)]
    have nx : qq s (eB s g t) 2 a b i = false → AW Γ 5 iX7_answerer P 3 [some (.inr 26), some (.inl (nI a)), some (.inl (nI b)), some (.inl t), some (.inl (nI (i + 1)))] [] g := fun e => ih (i + 1) (by omega) (by rw [hf, ff_F e])
    have yes : qq s (eB s g t) 2 a b i = true → P (nI i) g := fun e => by
      rw [fI_at (i := i) (by rw [hf, ff_T e]) (by omega)] at hP
      exact hP
    refine ⟨fun c => absurd c (nI_ge (by omega) (by omega)), fun _ => ⟨h, fun c1 => ?_, fun c1 => ⟨h, fun c2 => ?_, fun c2 => ⟨⟨h, by simp; omega, by simp; omega⟩, fun c3 => ?_, fun c3 => ⟨⟨h, by simp; omega, by simp; omega⟩, fun c5 => ?_, fun c5 => ?_⟩⟩⟩⟩⟩
    · rw [bi_eq0] at c1
      rw [fI_none (ff_all (fun j _ => by simp [qq, c1]))] at hP
      exact hP
    · rw [bi_eq0] at c2; exact nx (by simp [qq, q2, c2])
    · rw [bi_eq0] at c3; exact nx (by simp [qq, q2, c3])
    · rw [bi_eq0] at c5; exact nx (by simp [qq, q2, c5])
    · rw [bi_ne0] at c1 c2 c3 c5; exact yes (by simp [qq, q2, c1, c2, c3, c5])
theorem ct_X7_answerer {Γ : Gam} {s : St} {g : Mem} {x y t : Int32} (h : MW 27 s g ∧ inR (s 0) x = true ∧ inR (s 0) y = true) : Runs Γ 5 yX7_answerer iX7_answerer [.inr 26, .inl x, .inl y, .inl t] g (fun r g' => r = fI (-9) (qq s (eB s g t) 2 x.toNatClampNeg y.toNatClampNeg) (s 0) ∧ g' = g) := by
  obtain ⟨h, jx, jy⟩ := h
  obtain ⟨x, hx, rfl⟩ := inR_ob jx
  obtain ⟨y, hy, rfl⟩ := inR_ob jy
  have hn := h.2.n
  rw [ix_nI (by omega), ix_nI (by omega)]
  exact Runs.intro (by decide) rfl (Nat.le_of_ble_eq_true rfl) (sg_X7_answerer_0 _ _ t (lp_X7_answerer h hx hy ⟨rfl, rfl⟩ (s 0) 0 (by omega) rfl))
theorem sg_X7_keyOf_0 {Γ : Gam} {P : Int32 → Mem → Prop}  (a1 a2 a3 : Int32) {g : Mem} (h : AW Γ 4 iX7_keyOf P 3 [some (.inr 26), some (.inl a1), some (.inl a2), some (.inl a3), some (.inl 0)] [] g) : AW Γ 4 iX7_keyOf P 0 [some (.inr 26), some (.inl a1), some (.inl a2), some (.inl a3)] [] g :=
  (aw_iconst 0 dX7_keyOf_0 (by decide) (aw_istore [some (.inr 26), some (.inl a1), some (.inl a2), some (.inl a3), some (.inl 0)] dX7_keyOf_1 (by decide) rfl (aw_mask [true, true, true, true, true] rfl h)))
theorem sg_X7_keyOf_3 {Γ : Gam} {P : Int32 → Mem → Prop}  (s : St) (a1 a2 a3 a4 : Int32) {g : Mem} (h : (((g 27 0) ≤ a4 → P (-9) g) ∧ (¬ ((g 27 0) ≤ a4) → (MW 27 s g ∧ (((bi (isK s a4 2)) = 0 → AW Γ 4 iX7_keyOf P 3 [some (.inr 26), some (.inl a1), some (.inl a2), some (.inl a3), some (.inl (a4 + 1))] [] g) ∧ (¬ (bi (isK s a4 2)) = 0 → (vp_in (11 + a4) 81 ∧ ((¬ (g 27 (11 + a4).toNatClampNeg) = a2 → AW Γ 4 iX7_keyOf P 3 [some (.inr 26), some (.inl a1), some (.inl a2), some (.inl a3), some (.inl (a4 + 1))] [] g) ∧ ((g 27 (11 + a4).toNatClampNeg) = a2 → ((MW 27 s g ∧ inR (s 0) a1 = true ∧ inR (s 0) a4 = true) ∧ (((bi (eB s g a3 a1.toNatClampNeg a4.toNatClampNeg)) = 0 → AW Γ 4 iX7_keyOf P 3 [some (.inr 26), some (.inl a1), some (.inl a2), some (.inl a3), some (.inl (a4 + 1))] [] g) ∧ (¬ (bi (eB s g a3 a1.toNatClampNeg a4.toNatClampNeg)) = 0 → P a4 g)))))))))))) : AW Γ 4 iX7_keyOf P 3 [some (.inr 26), some (.inl a1), some (.inl a2), some (.inl a3), some (.inl a4)] [] g :=
  (aw_iload dX7_keyOf_3 rfl (aw_aload_n dX7_keyOf_5 rfl (aw_getr 27 fkX7_7 fa_26_1 dX7_keyOf_6 (aw_iconst 0 dX7_keyOf_9 (by decide) (aw_iald aa_27 dX7_keyOf_10 (vp_lit 0 (by decide) (by decide)) (aw_icmp_ge 58 dX7_keyOf_11 (by decide) (fun c1 => (aw_bipush (-9) dX7_keyOf_58 (by decide) (aw_iret rfl (vp_nar_int _) dX7_keyOf_60 (h.1 c1)))) (fun c1 => (aw_aload_n dX7_keyOf_14 rfl (aw_iload dX7_keyOf_15 rfl (aw_iconst 2 dX7_keyOf_17 (by decide) (aw_callVi lkX7_112 ckX7_isOf ca_26 rfl (d := 3) (by decide) [.inl a4, .inl 2] rfl rfl (Nat.le_of_ble_eq_true rfl) dX7_keyOf_18 rfl (Runs.fn (ct_X7_isOf (h.2 c1).1) (aw_if_eq 52 dX7_keyOf_21 (by decide) (fun c2 => (aw_iinc (a4 + 1) [some (.inr 26), some (.inl a1), some (.inl a2), some (.inl a3), some (.inl (a4 + 1))] dX7_keyOf_52 rfl (by rfl) (by decide) rfl (aw_goto 3 dX7_keyOf_55 (by decide) (aw_mask [true, true, true, true, true] rfl ((h.2 c1).2.1 c2))))) (fun c2 => (aw_aload_n dX7_keyOf_24 rfl (aw_getr 27 fkX7_7 fa_26_1 dX7_keyOf_25 (aw_bipush 11 dX7_keyOf_28 (by decide) (aw_iload dX7_keyOf_30 rfl (aw_iadd dX7_keyOf_32 (aw_iald aa_27 dX7_keyOf_33 ((h.2 c1).2.2 c2).1 (aw_iload_n dX7_keyOf_34 rfl (aw_icmp_ne 52 dX7_keyOf_35 (by decide) (fun c3 => (aw_iinc (a4 + 1) [some (.inr 26), some (.inl a1), some (.inl a2), some (.inl a3), some (.inl (a4 + 1))] dX7_keyOf_52 rfl (by rfl) (by decide) rfl (aw_goto 3 dX7_keyOf_55 (by decide) (aw_mask [true, true, true, true, true] rfl (((h.2 c1).2.2 c2).2.1 c3))))) (fun c3 => (aw_aload_n dX7_keyOf_38 rfl (aw_iload_n dX7_keyOf_39 rfl (aw_iload dX7_keyOf_40 rfl (aw_iload_n dX7_keyOf_42 rfl (aw_callVi lkX7_122 ckX7_isFound ca_26 rfl (d := 1) (by decide) [.inl a1, .inl a4, .inl a3] rfl rfl (Nat.le_of_ble_eq_true rfl) dX7_keyOf_43 rfl (Runs.fn (ct_X7_isFound (((h.2 c1).2.2 c2).2.2 c3).1) (aw_if_eq 52 dX7_keyOf_46 (by decide) (fun c4 => (aw_iinc (a4 + 1) [some (.inr 26), some (.inl a1), some (.inl a2), some (.inl a3), some (.inl (a4 + 1))] dX7_keyOf_52 rfl (by rfl) (by decide) rfl (aw_goto 3 dX7_keyOf_55 (by decide) (aw_mask [true, true, true, true, true] rfl ((((h.2 c1).2.2 c2).2.2 c3).2.1 c4))))) (fun c4 => (aw_iload dX7_keyOf_49 rfl (aw_iret rfl (vp_nar_int _) dX7_keyOf_51 ((((h.2 c1).2.2 c2).2.2 c3).2.2 c4))))))))))))))))))))))))))))))))))
theorem lp_X7_keyOf {Γ : Gam} {P : Int32 → Mem → Prop} {s : St} {g : Mem} {a br : Nat} {t : Int32} (h : MW 27 s g) (ha : a < s 0) (hbr : br < 4) (hP : P (fI (-9) (qk s (eB s g t) a br) (s 0)) g) : ∀ n i, i + n = s 0 → ff (qk s (eB s g t) a br) 0 (s 0) = ff (qk s (eB s g t) a br) i n → AW Γ 4 iX7_keyOf P 3 [some (.inr 26), some (.inl (nI a)), some (.inl (nI br)), some (.inl t), some (.inl (nI i))] [] g := by
  intro n
  have hn := h.2.n
  induction n with
  | zero =>
    intro i hi hf
    refine sg_X7_keyOf_3 s _ _ t _ ?_
    rw [h.at (show 0 < 81 by decide)]
    refine ⟨fun _ => ?_, fun c => absurd (nI_le (by omega) (by omega)) c⟩
    rw [fI_none (by rw [hf, ff]; omega)] at hP
    exact hP
  | succ n ih =>
    intro i hi hf
    have hfi := h.2.fi (i := i) (by omega)
    refine sg_X7_keyOf_3 s _ _ t _ ?_
    rw [h.at (show 0 < 81 by decide), nI_1, ix_nI (n := a) (by omega), ix_nI (n := i) (by omega), kz2 h.2 (by omega), n11, ix_nI (by omega), h.at (show 11 + i < 81 by omega), nI_eq (by omega) (by omega), inR_nI (by omega), inR_nI (by omega)]
    have nx : qk s (eB s g t) a br i = false → AW Γ 4 iX7_keyOf P 3 [some (.inr 26), some (.inl (nI a)), some (.inl (nI br)), some (.inl t), some (.inl (nI (i + 1)))] [] g := fun e => ih (i + 1) (by omega) (by rw [hf, ff_F e])
    have yes : qk s (eB s g t) a br i = true → P (nI i) g := fun e => by
      rw [fI_at (i := i) (by rw [hf, ff_T e]) (by omega)] at hP
      exact hP
    refine ⟨fun c => absurd c (nI_ge (by omega) (by omega)), fun _ => ⟨h, fun c1 => ?_, fun c1 => ⟨vp_nI (by omega) (by decide), fun c2 => ?_, fun c2 => ⟨⟨h, by simp; omega, by simp; omega⟩, fun c5 => ?_, fun c5 => ?_⟩⟩⟩⟩
    · rw [bi_eq0] at c1; exact nx (by simp [qk, c1])
    · exact nx (by simp [qk, c2])
    · rw [bi_eq0] at c5; exact nx (by simp [qk, c5])
    · rw [bi_ne0] at c1 c5; exact yes (by simp [qk, c1, c2, c5])
theorem ct_X7_keyOf {Γ : Gam} {s : St} {g : Mem} {x y t : Int32} (h : MW 27 s g ∧ inR (s 0) x = true ∧ inR 4 y = true) : Runs Γ 4 yX7_keyOf iX7_keyOf [.inr 26, .inl x, .inl y, .inl t] g (fun r g' => r = fI (-9) (qk s (eB s g t) x.toNatClampNeg y.toNatClampNeg) (s 0) ∧ g' = g) := by
  obtain ⟨h, jx, jy⟩ := h
  obtain ⟨x, hx, rfl⟩ := inR_ob jx
  obtain ⟨y, hy, rfl⟩ := inR_ob jy
  have hn := h.2.n
  rw [ix_nI (by omega), ix_nI (by omega)]
  exact Runs.intro (by decide) rfl (Nat.le_of_ble_eq_true rfl) (sg_X7_keyOf_0 _ _ t (lp_X7_keyOf h hx hy ⟨rfl, rfl⟩ (s 0) 0 (by omega) rfl))
theorem sg_X7_userOf_0 {Γ : Gam} {P : Int32 → Mem → Prop}  (a1 a2 : Int32) {g : Mem} (h : AW Γ 5 iX7_userOf P 2 [some (.inr 26), some (.inl a1), some (.inl a2), some (.inl 0)] [] g) : AW Γ 5 iX7_userOf P 0 [some (.inr 26), some (.inl a1), some (.inl a2)] [] g :=
  (aw_iconst 0 dX7_userOf_0 (by decide) (aw_istore_n [some (.inr 26), some (.inl a1), some (.inl a2), some (.inl 0)] dX7_userOf_1 (by decide) rfl (aw_mask [true, true, true, true] rfl h)))
theorem sg_X7_userOf_2 {Γ : Gam} {P : Int32 → Mem → Prop}  (s : St) (a1 a2 a3 : Int32) {g : Mem} (h : (((g 27 0) ≤ a3 → P (-9) g) ∧ (¬ ((g 27 0) ≤ a3) → (MW 27 s g ∧ (((bi (isW s a3 2)) = 0 → AW Γ 5 iX7_userOf P 2 [some (.inr 26), some (.inl a1), some (.inl a2), some (.inl (a3 + 1))] [] g) ∧ (¬ (bi (isW s a3 2)) = 0 → ((MW 27 s g ∧ inR (s 0) a3 = true ∧ inR (s 0) a1 = true) ∧ (((bi (eB s g a2 a3.toNatClampNeg a1.toNatClampNeg)) = 0 → AW Γ 5 iX7_userOf P 2 [some (.inr 26), some (.inl a1), some (.inl a2), some (.inl (a3 + 1))] [] g) ∧ (¬ (bi (eB s g a2 a3.toNatClampNeg a1.toNatClampNeg)) = 0 → P a3 g))))))))) : AW Γ 5 iX7_userOf P 2 [some (.inr 26), some (.inl a1), some (.inl a2), some (.inl a3)] [] g :=
  (aw_iload_n dX7_userOf_2 rfl (aw_aload_n dX7_userOf_3 rfl (aw_getr 27 fkX7_7 fa_26_1 dX7_userOf_4 (aw_iconst 0 dX7_userOf_7 (by decide) (aw_iald aa_27 dX7_userOf_8 (vp_lit 0 (by decide) (by decide)) (aw_icmp_ge 39 dX7_userOf_9 (by decide) (fun c1 => (aw_bipush (-9) dX7_userOf_39 (by decide) (aw_iret rfl (vp_nar_int _) dX7_userOf_41 (h.1 c1)))) (fun c1 => (aw_aload_n dX7_userOf_12 rfl (aw_iload_n dX7_userOf_13 rfl (aw_iconst 2 dX7_userOf_14 (by decide) (aw_callVi lkX7_119 ckX7_does ca_26 rfl (d := 4) (by decide) [.inl a3, .inl 2] rfl rfl (Nat.le_of_ble_eq_true rfl) dX7_userOf_15 rfl (Runs.fn (ct_X7_does (h.2 c1).1) (aw_if_eq 33 dX7_userOf_18 (by decide) (fun c2 => (aw_iinc (a3 + 1) [some (.inr 26), some (.inl a1), some (.inl a2), some (.inl (a3 + 1))] dX7_userOf_33 rfl (by rfl) (by decide) rfl (aw_goto 2 dX7_userOf_36 (by decide) (aw_mask [true, true, true, true] rfl ((h.2 c1).2.1 c2))))) (fun c2 => (aw_aload_n dX7_userOf_21 rfl (aw_iload_n dX7_userOf_22 rfl (aw_iload_n dX7_userOf_23 rfl (aw_iload_n dX7_userOf_24 rfl (aw_callVi lkX7_122 ckX7_isFound ca_26 rfl (d := 1) (by decide) [.inl a3, .inl a1, .inl a2] rfl rfl (Nat.le_of_ble_eq_true rfl) dX7_userOf_25 rfl (Runs.fn (ct_X7_isFound ((h.2 c1).2.2 c2).1) (aw_if_eq 33 dX7_userOf_28 (by decide) (fun c3 => (aw_iinc (a3 + 1) [some (.inr 26), some (.inl a1), some (.inl a2), some (.inl (a3 + 1))] dX7_userOf_33 rfl (by rfl) (by decide) rfl (aw_goto 2 dX7_userOf_36 (by decide) (aw_mask [true, true, true, true] rfl (((h.2 c1).2.2 c2).2.1 c3))))) (fun c3 => (aw_iload_n dX7_userOf_31 rfl (aw_iret rfl (vp_nar_int _) dX7_userOf_32 (((h.2 c1).2.2 c2).2.2 c3)))))))))))))))))))))))))
theorem lp_X7_userOf {Γ : Gam} {P : Int32 → Mem → Prop} {s : St} {g : Mem} {a : Nat} {t : Int32} (h : MW 27 s g) (ha : a < s 0) (hP : P (fI (-9) (qu s (eB s g t) a) (s 0)) g) : ∀ n i, i + n = s 0 → ff (qu s (eB s g t) a) 0 (s 0) = ff (qu s (eB s g t) a) i n → AW Γ 5 iX7_userOf P 2 [some (.inr 26), some (.inl (nI a)), some (.inl t), some (.inl (nI i))] [] g := by
  intro n
  have hn := h.2.n
  induction n with
  | zero =>
    intro i hi hf
    refine sg_X7_userOf_2 s _ t _ ?_
    rw [h.at (show 0 < 81 by decide)]
    refine ⟨fun _ => ?_, fun c => absurd (nI_le (by omega) (by omega)) c⟩
    rw [fI_none (by rw [hf, ff]; omega)] at hP
    exact hP
  | succ n ih =>
    intro i hi hf
    refine sg_X7_userOf_2 s _ t _ ?_
    rw [h.at (show 0 < 81 by decide), nI_1, ix_nI (n := a) (by omega), ix_nI (n := i) (by omega), dz2 h.2 (by omega), inR_nI (by omega), inR_nI (by omega)]
    have nx : qu s (eB s g t) a i = false → AW Γ 5 iX7_userOf P 2 [some (.inr 26), some (.inl (nI a)), some (.inl t), some (.inl (nI (i + 1)))] [] g := fun e => ih (i + 1) (by omega) (by rw [hf, ff_F e])
    have yes : qu s (eB s g t) a i = true → P (nI i) g := fun e => by
      rw [fI_at (i := i) (by rw [hf, ff_T e]) (by omega)] at hP
      exact hP
    refine ⟨fun c => absurd c (nI_ge (by omega) (by omega)), fun _ => ⟨h, fun c1 => ?_, fun c1 => ⟨⟨h, by simp; omega, by simp; omega⟩, fun c5 => ?_, fun c5 => ?_⟩⟩⟩
    · rw [bi_eq0] at c1; exact nx (by simp [qu, c1])
    · rw [bi_eq0] at c5; exact nx (by simp [qu, c5])
    · rw [bi_ne0] at c1 c5; exact yes (by simp [qu, c1, c5])
theorem ct_X7_userOf {Γ : Gam} {s : St} {g : Mem} {x t : Int32} (h : MW 27 s g ∧ inR (s 0) x = true) : Runs Γ 5 yX7_userOf iX7_userOf [.inr 26, .inl x, .inl t] g (fun r g' => r = fI (-9) (qu s (eB s g t) x.toNatClampNeg) (s 0) ∧ g' = g) := by
  obtain ⟨h, jx⟩ := h
  obtain ⟨x, hx, rfl⟩ := inR_ob jx
  have hn := h.2.n
  rw [ix_nI (by omega)]
  exact Runs.intro (by decide) rfl (Nat.le_of_ble_eq_true rfl) (sg_X7_userOf_0 _ t (lp_X7_userOf h hx ⟨rfl, rfl⟩ (s 0) 0 (by omega) rfl))
theorem sg_X7_openedBox_0 {Γ : Gam} {P : Int32 → Mem → Prop}  (a1 a2 a3 : Int32) {g : Mem} (h : AW Γ 5 iX7_openedBox P 3 [some (.inr 26), some (.inl a1), some (.inl a2), some (.inl a3), some (.inl 0)] [] g) : AW Γ 5 iX7_openedBox P 0 [some (.inr 26), some (.inl a1), some (.inl a2), some (.inl a3)] [] g :=
  (aw_iconst 0 dX7_openedBox_0 (by decide) (aw_istore [some (.inr 26), some (.inl a1), some (.inl a2), some (.inl a3), some (.inl 0)] dX7_openedBox_1 (by decide) rfl (aw_mask [true, true, true, true, true] rfl h)))
theorem sg_X7_openedBox_3 {Γ : Gam} {P : Int32 → Mem → Prop}  (s : St) (a1 a2 a3 a4 : Int32) {g : Mem} (h : (((g 27 0) ≤ a4 → P (-9) g) ∧ (¬ ((g 27 0) ≤ a4) → (MW 27 s g ∧ (((bi (isW s a1 2)) = 0 → P (-9) g) ∧ (¬ (bi (isW s a1 2)) = 0 → (MW 27 s g ∧ (((bi (isK s a4 1)) = 0 → AW Γ 5 iX7_openedBox P 3 [some (.inr 26), some (.inl a1), some (.inl a2), some (.inl a3), some (.inl (a4 + 1))] [] g) ∧ (¬ (bi (isK s a4 1)) = 0 → (vp_in (21 + a4) 81 ∧ ((¬ (g 27 (21 + a4).toNatClampNeg) = a2 → AW Γ 5 iX7_openedBox P 3 [some (.inr 26), some (.inl a1), some (.inl a2), some (.inl a3), some (.inl (a4 + 1))] [] g) ∧ ((g 27 (21 + a4).toNatClampNeg) = a2 → ((MW 27 s g ∧ inR (s 0) a1 = true ∧ inR (s 0) a4 = true) ∧ (((bi (eB s g a3 a1.toNatClampNeg a4.toNatClampNeg)) = 0 → AW Γ 5 iX7_openedBox P 3 [some (.inr 26), some (.inl a1), some (.inl a2), some (.inl a3), some (.inl (a4 + 1))] [] g) ∧ (¬ (bi (eB s g a3 a1.toNatClampNeg a4.toNatClampNeg)) = 0 → (vp_in (11 + a4) 81 ∧ ((MW 27 s g ∧ inR (s 0) a1 = true ∧ inR 4 (g 27 (11 + a4).toNatClampNeg) = true) ∧ (((fI (-9) (qk s (eB s g a3) a1.toNatClampNeg (g 27 (11 + a4).toNatClampNeg).toNatClampNeg) (s 0)) = (-9) → AW Γ 5 iX7_openedBox P 3 [some (.inr 26), some (.inl a1), some (.inl a2), some (.inl a3), some (.inl (a4 + 1))] [] g) ∧ (¬ (fI (-9) (qk s (eB s g a3) a1.toNatClampNeg (g 27 (11 + a4).toNatClampNeg).toNatClampNeg) (s 0)) = (-9) → P a4 g))))))))))))))))))) : AW Γ 5 iX7_openedBox P 3 [some (.inr 26), some (.inl a1), some (.inl a2), some (.inl a3), some (.inl a4)] [] g :=
  (aw_iload dX7_openedBox_3 rfl (aw_aload_n dX7_openedBox_5 rfl (aw_getr 27 fkX7_7 fa_26_1 dX7_openedBox_6 (aw_iconst 0 dX7_openedBox_9 (by decide) (aw_iald aa_27 dX7_openedBox_10 (vp_lit 0 (by decide) (by decide)) (aw_icmp_ge 88 dX7_openedBox_11 (by decide) (fun c1 => (aw_bipush (-9) dX7_openedBox_88 (by decide) (aw_iret rfl (vp_nar_int _) dX7_openedBox_90 (h.1 c1)))) (fun c1 => (aw_aload_n dX7_openedBox_14 rfl (aw_iload_n dX7_openedBox_15 rfl (aw_iconst 2 dX7_openedBox_16 (by decide) (aw_callVi lkX7_119 ckX7_does ca_26 rfl (d := 4) (by decide) [.inl a1, .inl 2] rfl rfl (Nat.le_of_ble_eq_true rfl) dX7_openedBox_17 rfl (Runs.fn (ct_X7_does (h.2 c1).1) (aw_if_eq 88 dX7_openedBox_20 (by decide) (fun c2 => (aw_bipush (-9) dX7_openedBox_88 (by decide) (aw_iret rfl (vp_nar_int _) dX7_openedBox_90 ((h.2 c1).2.1 c2)))) (fun c2 => (aw_aload_n dX7_openedBox_23 rfl (aw_iload dX7_openedBox_24 rfl (aw_iconst 1 dX7_openedBox_26 (by decide) (aw_callVi lkX7_112 ckX7_isOf ca_26 rfl (d := 3) (by decide) [.inl a4, .inl 1] rfl rfl (Nat.le_of_ble_eq_true rfl) dX7_openedBox_27 rfl (Runs.fn (ct_X7_isOf ((h.2 c1).2.2 c2).1) (aw_if_eq 82 dX7_openedBox_30 (by decide) (fun c3 => (aw_iinc (a4 + 1) [some (.inr 26), some (.inl a1), some (.inl a2), some (.inl a3), some (.inl (a4 + 1))] dX7_openedBox_82 rfl (by rfl) (by decide) rfl (aw_goto 3 dX7_openedBox_85 (by decide) (aw_mask [true, true, true, true, true] rfl (((h.2 c1).2.2 c2).2.1 c3))))) (fun c3 => (aw_aload_n dX7_openedBox_33 rfl (aw_getr 27 fkX7_7 fa_26_1 dX7_openedBox_34 (aw_bipush 21 dX7_openedBox_37 (by decide) (aw_iload dX7_openedBox_39 rfl (aw_iadd dX7_openedBox_41 (aw_iald aa_27 dX7_openedBox_42 (((h.2 c1).2.2 c2).2.2 c3).1 (aw_iload_n dX7_openedBox_43 rfl (aw_icmp_ne 82 dX7_openedBox_44 (by decide) (fun c4 => (aw_iinc (a4 + 1) [some (.inr 26), some (.inl a1), some (.inl a2), some (.inl a3), some (.inl (a4 + 1))] dX7_openedBox_82 rfl (by rfl) (by decide) rfl (aw_goto 3 dX7_openedBox_85 (by decide) (aw_mask [true, true, true, true, true] rfl ((((h.2 c1).2.2 c2).2.2 c3).2.1 c4))))) (fun c4 => (aw_aload_n dX7_openedBox_47 rfl (aw_iload_n dX7_openedBox_48 rfl (aw_iload dX7_openedBox_49 rfl (aw_iload_n dX7_openedBox_51 rfl (aw_callVi lkX7_122 ckX7_isFound ca_26 rfl (d := 1) (by decide) [.inl a1, .inl a4, .inl a3] rfl rfl (Nat.le_of_ble_eq_true rfl) dX7_openedBox_52 rfl (Runs.fn (ct_X7_isFound ((((h.2 c1).2.2 c2).2.2 c3).2.2 c4).1) (aw_if_eq 82 dX7_openedBox_55 (by decide) (fun c5 => (aw_iinc (a4 + 1) [some (.inr 26), some (.inl a1), some (.inl a2), some (.inl a3), some (.inl (a4 + 1))] dX7_openedBox_82 rfl (by rfl) (by decide) rfl (aw_goto 3 dX7_openedBox_85 (by decide) (aw_mask [true, true, true, true, true] rfl (((((h.2 c1).2.2 c2).2.2 c3).2.2 c4).2.1 c5))))) (fun c5 => (aw_aload_n dX7_openedBox_58 rfl (aw_iload_n dX7_openedBox_59 rfl (aw_aload_n dX7_openedBox_60 rfl (aw_getr 27 fkX7_7 fa_26_1 dX7_openedBox_61 (aw_bipush 11 dX7_openedBox_64 (by decide) (aw_iload dX7_openedBox_66 rfl (aw_iadd dX7_openedBox_68 (aw_iald aa_27 dX7_openedBox_69 (((((h.2 c1).2.2 c2).2.2 c3).2.2 c4).2.2 c5).1 (aw_iload_n dX7_openedBox_70 rfl (aw_callVi lkX7_125 ckX7_keyOf ca_26 rfl (d := 4) (by decide) [.inl a1, .inl (g 27 (11 + a4).toNatClampNeg), .inl a3] rfl rfl (Nat.le_of_ble_eq_true rfl) dX7_openedBox_71 rfl (Runs.fn (ct_X7_keyOf (((((h.2 c1).2.2 c2).2.2 c3).2.2 c4).2.2 c5).2.1) (aw_bipush (-9) dX7_openedBox_74 (by decide) (aw_icmp_eq 82 dX7_openedBox_76 (by decide) (fun c6 => (aw_iinc (a4 + 1) [some (.inr 26), some (.inl a1), some (.inl a2), some (.inl a3), some (.inl (a4 + 1))] dX7_openedBox_82 rfl (by rfl) (by decide) rfl (aw_goto 3 dX7_openedBox_85 (by decide) (aw_mask [true, true, true, true, true] rfl ((((((h.2 c1).2.2 c2).2.2 c3).2.2 c4).2.2 c5).2.2.1 c6))))) (fun c6 => (aw_iload dX7_openedBox_79 rfl (aw_iret rfl (vp_nar_int _) dX7_openedBox_81 ((((((h.2 c1).2.2 c2).2.2 c3).2.2 c4).2.2 c5).2.2.2 c6)))))))))))))))))))))))))))))))))))))))))))))))))))))))
theorem lp_X7_openedBox {Γ : Gam} {P : Int32 → Mem → Prop} {s : St} {g : Mem} {a b : Nat} {t : Int32} (h : MW 27 s g) (ha : a < s 0) (hb : b < s 0) (hP : P (fI (-9) (qq s (eB s g t) 3 a b) (s 0)) g) : ∀ n i, i + n = s 0 → ff (qq s (eB s g t) 3 a b) 0 (s 0) = ff (qq s (eB s g t) 3 a b) i n → AW Γ 5 iX7_openedBox P 3 [some (.inr 26), some (.inl (nI a)), some (.inl (nI b)), some (.inl t), some (.inl (nI i))] [] g := by
  intro n
  have hn := h.2.n
  induction n with
  | zero =>
    intro i hi hf
    refine sg_X7_openedBox_3 s _ _ t _ ?_
    rw [h.at (show 0 < 81 by decide)]
    refine ⟨fun _ => ?_, fun c => absurd (nI_le (by omega) (by omega)) c⟩
    rw [fI_none (by rw [hf, ff]; omega)] at hP
    exact hP
  | succ n ih =>
    intro i hi hf
    have hfi := h.2.fi (i := i) (by omega)
    have ho := h.2.o (i := i) (by omega)
    refine sg_X7_openedBox_3 s _ _ t _ ?_
    rw [h.at (show 0 < 81 by decide), nI_1, ix_nI (n := a) (by omega), ix_nI (n := i) (by omega), dz2 h.2 (by omega), kz1 h.2 (by omega), n21, n11, ix_nI (n := 21 + i) (by omega), ix_nI (n := 11 + i) (by omega), h.at (show 11 + i < 81 by omega), h.at (show 21 + i < 81 by omega), inR_nI (by omega), inR_nI (by omega), inR_nI (by omega), ix_nI (by omega), fI_neg (by omega) (by decide)]
    have nx : qq s (eB s g t) 3 a b i = false → AW Γ 5 iX7_openedBox P 3 [some (.inr 26), some (.inl (nI a)), some (.inl (nI b)), some (.inl t), some (.inl (nI (i + 1)))] [] g := fun e => ih (i + 1) (by omega) (by rw [hf, ff_F e])
    have yes : qq s (eB s g t) 3 a b i = true → P (nI i) g := fun e => by
      rw [fI_at (i := i) (by rw [hf, ff_T e]) (by omega)] at hP
      exact hP
    refine ⟨fun c => absurd c (nI_ge (by omega) (by omega)), fun _ => ⟨h, fun c1 => ?_, fun c1 => ⟨h, fun c2 => ?_, fun c2 => ?_⟩⟩⟩
    · rw [bi_eq0] at c1
      rw [fI_none (ff_all (fun j _ => by simp [qq, c1]))] at hP
      exact hP
    · rw [bi_eq0] at c2; exact nx (by simp [qq, q3, c2])
    · rw [bi_ne0] at c1 c2
      have k1 : s (1 + i) = 1 := by simp [kz] at c2; exact c2.2
      obtain ⟨o1, o2⟩ := ho.2.2.2.1 k1
      rw [nI_eq (by omega) (by omega)]
      refine ⟨vp_nI (by omega) (by decide), fun c3 => ?_, fun c3 => ⟨⟨h, by simp; omega, by simp; omega⟩, fun c4 => ?_, fun c4 => ⟨vp_nI (by omega) (by decide), ⟨h, by simp; omega, by simp; omega⟩, fun c5 => ?_, fun c5 => ?_⟩⟩⟩
      · exact nx (by simp [qq, q3, c3])
      · rw [bi_eq0] at c4; exact nx (by simp [qq, q3, c4])
      · exact nx (by simp [qq, q3, c5])
      · rw [bi_ne0] at c4; exact yes (by simp [qq, q3, c1, c2, c3, c4, Decidable.not_not.mp c5])
theorem ct_X7_openedBox {Γ : Gam} {s : St} {g : Mem} {x y t : Int32} (h : MW 27 s g ∧ inR (s 0) x = true ∧ inR (s 0) y = true) : Runs Γ 5 yX7_openedBox iX7_openedBox [.inr 26, .inl x, .inl y, .inl t] g (fun r g' => r = fI (-9) (qq s (eB s g t) 3 x.toNatClampNeg y.toNatClampNeg) (s 0) ∧ g' = g) := by
  obtain ⟨h, jx, jy⟩ := h
  obtain ⟨x, hx, rfl⟩ := inR_ob jx
  obtain ⟨y, hy, rfl⟩ := inR_ob jy
  have hn := h.2.n
  rw [ix_nI (by omega), ix_nI (by omega)]
  exact Runs.intro (by decide) rfl (Nat.le_of_ble_eq_true rfl) (sg_X7_openedBox_0 _ _ t (lp_X7_openedBox h hx hy ⟨rfl, rfl⟩ (s 0) 0 (by omega) rfl))
theorem sg_X7_creator_0 {Γ : Gam} {P : Int32 → Mem → Prop}  (a1 a2 a3 : Int32) {g : Mem} (h : AW Γ 5 iX7_creator P 3 [some (.inr 26), some (.inl a1), some (.inl a2), some (.inl a3), some (.inl 0)] [] g) : AW Γ 5 iX7_creator P 0 [some (.inr 26), some (.inl a1), some (.inl a2), some (.inl a3)] [] g :=
  (aw_iconst 0 dX7_creator_0 (by decide) (aw_istore [some (.inr 26), some (.inl a1), some (.inl a2), some (.inl a3), some (.inl 0)] dX7_creator_1 (by decide) rfl (aw_mask [true, true, true, true, true] rfl h)))
theorem sg_X7_creator_3 {Γ : Gam} {P : Int32 → Mem → Prop}  (s : St) (a1 a2 a3 a4 : Int32) {g : Mem} (h : (((g 27 0) ≤ a4 → P (-9) g) ∧ (¬ ((g 27 0) ≤ a4) → (MW 27 s g ∧ (((bi (isW s a1 2)) = 0 → P (-9) g) ∧ (¬ (bi (isW s a1 2)) = 0 → (MW 27 s g ∧ (((bi (isK s a4 3)) = 0 → AW Γ 5 iX7_creator P 3 [some (.inr 26), some (.inl a1), some (.inl a2), some (.inl a3), some (.inl (a4 + 1))] [] g) ∧ (¬ (bi (isK s a4 3)) = 0 → (vp_in (11 + a4) 81 ∧ ((¬ (g 27 (11 + a4).toNatClampNeg) = a2 → AW Γ 5 iX7_creator P 3 [some (.inr 26), some (.inl a1), some (.inl a2), some (.inl a3), some (.inl (a4 + 1))] [] g) ∧ ((g 27 (11 + a4).toNatClampNeg) = a2 → ((MW 27 s g ∧ inR (s 0) a1 = true ∧ inR (s 0) a4 = true) ∧ (((bi (eB s g a3 a1.toNatClampNeg a4.toNatClampNeg)) = 0 → AW Γ 5 iX7_creator P 3 [some (.inr 26), some (.inl a1), some (.inl a2), some (.inl a3), some (.inl (a4 + 1))] [] g) ∧ (¬ (bi (eB s g a3 a1.toNatClampNeg a4.toNatClampNeg)) = 0 → P a4 g))))))))))))))) : AW Γ 5 iX7_creator P 3 [some (.inr 26), some (.inl a1), some (.inl a2), some (.inl a3), some (.inl a4)] [] g :=
  (aw_iload dX7_creator_3 rfl (aw_aload_n dX7_creator_5 rfl (aw_getr 27 fkX7_7 fa_26_1 dX7_creator_6 (aw_iconst 0 dX7_creator_9 (by decide) (aw_iald aa_27 dX7_creator_10 (vp_lit 0 (by decide) (by decide)) (aw_icmp_ge 67 dX7_creator_11 (by decide) (fun c1 => (aw_bipush (-9) dX7_creator_67 (by decide) (aw_iret rfl (vp_nar_int _) dX7_creator_69 (h.1 c1)))) (fun c1 => (aw_aload_n dX7_creator_14 rfl (aw_iload_n dX7_creator_15 rfl (aw_iconst 2 dX7_creator_16 (by decide) (aw_callVi lkX7_119 ckX7_does ca_26 rfl (d := 4) (by decide) [.inl a1, .inl 2] rfl rfl (Nat.le_of_ble_eq_true rfl) dX7_creator_17 rfl (Runs.fn (ct_X7_does (h.2 c1).1) (aw_if_eq 67 dX7_creator_20 (by decide) (fun c2 => (aw_bipush (-9) dX7_creator_67 (by decide) (aw_iret rfl (vp_nar_int _) dX7_creator_69 ((h.2 c1).2.1 c2)))) (fun c2 => (aw_aload_n dX7_creator_23 rfl (aw_iload dX7_creator_24 rfl (aw_iconst 3 dX7_creator_26 (by decide) (aw_callVi lkX7_112 ckX7_isOf ca_26 rfl (d := 3) (by decide) [.inl a4, .inl 3] rfl rfl (Nat.le_of_ble_eq_true rfl) dX7_creator_27 rfl (Runs.fn (ct_X7_isOf ((h.2 c1).2.2 c2).1) (aw_if_eq 61 dX7_creator_30 (by decide) (fun c3 => (aw_iinc (a4 + 1) [some (.inr 26), some (.inl a1), some (.inl a2), some (.inl a3), some (.inl (a4 + 1))] dX7_creator_61 rfl (by rfl) (by decide) rfl (aw_goto 3 dX7_creator_64 (by decide) (aw_mask [true, true, true, true, true] rfl (((h.2 c1).2.2 c2).2.1 c3))))) (fun c3 => (aw_aload_n dX7_creator_33 rfl (aw_getr 27 fkX7_7 fa_26_1 dX7_creator_34 (aw_bipush 11 dX7_creator_37 (by decide) (aw_iload dX7_creator_39 rfl (aw_iadd dX7_creator_41 (aw_iald aa_27 dX7_creator_42 (((h.2 c1).2.2 c2).2.2 c3).1 (aw_iload_n dX7_creator_43 rfl (aw_icmp_ne 61 dX7_creator_44 (by decide) (fun c4 => (aw_iinc (a4 + 1) [some (.inr 26), some (.inl a1), some (.inl a2), some (.inl a3), some (.inl (a4 + 1))] dX7_creator_61 rfl (by rfl) (by decide) rfl (aw_goto 3 dX7_creator_64 (by decide) (aw_mask [true, true, true, true, true] rfl ((((h.2 c1).2.2 c2).2.2 c3).2.1 c4))))) (fun c4 => (aw_aload_n dX7_creator_47 rfl (aw_iload_n dX7_creator_48 rfl (aw_iload dX7_creator_49 rfl (aw_iload_n dX7_creator_51 rfl (aw_callVi lkX7_122 ckX7_isFound ca_26 rfl (d := 1) (by decide) [.inl a1, .inl a4, .inl a3] rfl rfl (Nat.le_of_ble_eq_true rfl) dX7_creator_52 rfl (Runs.fn (ct_X7_isFound ((((h.2 c1).2.2 c2).2.2 c3).2.2 c4).1) (aw_if_eq 61 dX7_creator_55 (by decide) (fun c5 => (aw_iinc (a4 + 1) [some (.inr 26), some (.inl a1), some (.inl a2), some (.inl a3), some (.inl (a4 + 1))] dX7_creator_61 rfl (by rfl) (by decide) rfl (aw_goto 3 dX7_creator_64 (by decide) (aw_mask [true, true, true, true, true] rfl (((((h.2 c1).2.2 c2).2.2 c3).2.2 c4).2.1 c5))))) (fun c5 => (aw_iload dX7_creator_58 rfl (aw_iret rfl (vp_nar_int _) dX7_creator_60 (((((h.2 c1).2.2 c2).2.2 c3).2.2 c4).2.2 c5)))))))))))))))))))))))))))))))))))))))))
theorem lp_X7_creator {Γ : Gam} {P : Int32 → Mem → Prop} {s : St} {g : Mem} {a b : Nat} {t : Int32} (h : MW 27 s g) (ha : a < s 0) (hb : b < s 0) (hP : P (fI (-9) (qq s (eB s g t) 4 a b) (s 0)) g) : ∀ n i, i + n = s 0 → ff (qq s (eB s g t) 4 a b) 0 (s 0) = ff (qq s (eB s g t) 4 a b) i n → AW Γ 5 iX7_creator P 3 [some (.inr 26), some (.inl (nI a)), some (.inl (nI b)), some (.inl t), some (.inl (nI i))] [] g := by
  intro n
  have hn := h.2.n
  induction n with
  | zero =>
    intro i hi hf
    refine sg_X7_creator_3 s _ _ t _ ?_
    rw [h.at (show 0 < 81 by decide)]
    refine ⟨fun _ => ?_, fun c => absurd (nI_le (by omega) (by omega)) c⟩
    rw [fI_none (by rw [hf, ff]; omega)] at hP
    exact hP
  | succ n ih =>
    intro i hi hf
    have hfi := h.2.fi (i := i) (by omega)
    refine sg_X7_creator_3 s _ _ t _ ?_
    rw [h.at (show 0 < 81 by decide), nI_1, ix_nI (n := a) (by omega), ix_nI (n := i) (by omega), dz2 h.2 (by omega), kz3 h.2 (by omega), n11, ix_nI (n := 11 + i) (by omega), h.at (show 11 + i < 81 by omega), nI_eq (by omega) (by omega), inR_nI (by omega), inR_nI (by omega)]
    have nx : qq s (eB s g t) 4 a b i = false → AW Γ 5 iX7_creator P 3 [some (.inr 26), some (.inl (nI a)), some (.inl (nI b)), some (.inl t), some (.inl (nI (i + 1)))] [] g := fun e => ih (i + 1) (by omega) (by rw [hf, ff_F e])
    have yes : qq s (eB s g t) 4 a b i = true → P (nI i) g := fun e => by
      rw [fI_at (i := i) (by rw [hf, ff_T e]) (by omega)] at hP
      exact hP
    refine ⟨fun c => absurd c (nI_ge (by omega) (by omega)), fun _ => ⟨h, fun c1 => ?_, fun c1 => ⟨h, fun c2 => ?_, fun c2 => ⟨vp_nI (by omega) (by decide), fun c3 => ?_, fun c3 => ⟨⟨h, by simp; omega, by simp; omega⟩, fun c4 => ?_, fun c4 => ?_⟩⟩⟩⟩⟩
    · rw [bi_eq0] at c1
      rw [fI_none (ff_all (fun j _ => by simp [qq, c1]))] at hP
      exact hP
    · rw [bi_eq0] at c2; exact nx (by simp [qq, q4, c2])
    · exact nx (by simp [qq, q4, c3])
    · rw [bi_eq0] at c4; exact nx (by simp [qq, q4, c4])
    · rw [bi_ne0] at c1 c2 c4; exact yes (by simp [qq, q4, c1, c2, c3, c4])
theorem ct_X7_creator {Γ : Gam} {s : St} {g : Mem} {x y t : Int32} (h : MW 27 s g ∧ inR (s 0) x = true ∧ inR (s 0) y = true) : Runs Γ 5 yX7_creator iX7_creator [.inr 26, .inl x, .inl y, .inl t] g (fun r g' => r = fI (-9) (qq s (eB s g t) 4 x.toNatClampNeg y.toNatClampNeg) (s 0) ∧ g' = g) := by
  obtain ⟨h, jx, jy⟩ := h
  obtain ⟨x, hx, rfl⟩ := inR_ob jx
  obtain ⟨y, hy, rfl⟩ := inR_ob jy
  have hn := h.2.n
  rw [ix_nI (by omega), ix_nI (by omega)]
  exact Runs.intro (by decide) rfl (Nat.le_of_ble_eq_true rfl) (sg_X7_creator_0 _ _ t (lp_X7_creator h hx hy ⟨rfl, rfl⟩ (s 0) 0 (by omega) rfl))
theorem sg_X7_endower_0 {Γ : Gam} {P : Int32 → Mem → Prop}  (a1 a2 a3 : Int32) {g : Mem} (h : AW Γ 6 iX7_endower P 3 [some (.inr 26), some (.inl a1), some (.inl a2), some (.inl a3), some (.inl 0)] [] g) : AW Γ 6 iX7_endower P 0 [some (.inr 26), some (.inl a1), some (.inl a2), some (.inl a3)] [] g :=
  (aw_iconst 0 dX7_endower_0 (by decide) (aw_istore [some (.inr 26), some (.inl a1), some (.inl a2), some (.inl a3), some (.inl 0)] dX7_endower_1 (by decide) rfl (aw_mask [true, true, true, true, true] rfl h)))
theorem sg_X7_endower_3 {Γ : Gam} {P : Int32 → Mem → Prop}  (s : St) (a1 a2 a3 a4 : Int32) {g : Mem} (h : (((g 27 0) ≤ a4 → P (-9) g) ∧ (¬ ((g 27 0) ≤ a4) → (MW 27 s g ∧ (((bi (isK s a4 3)) = 0 → AW Γ 6 iX7_endower P 3 [some (.inr 26), some (.inl a1), some (.inl a2), some (.inl a3), some (.inl (a4 + 1))] [] g) ∧ (¬ (bi (isK s a4 3)) = 0 → (vp_in (11 + a4) 81 ∧ ((¬ (g 27 (11 + a4).toNatClampNeg) = a1 → AW Γ 6 iX7_endower P 3 [some (.inr 26), some (.inl a1), some (.inl a2), some (.inl a3), some (.inl (a4 + 1))] [] g) ∧ ((g 27 (11 + a4).toNatClampNeg) = a1 → ((MW 27 s g ∧ inR (s 0) a4 = true ∧ inR (s 0) a2 = true) ∧ (((bi (eB s g a3 a4.toNatClampNeg a2.toNatClampNeg)) = 0 → AW Γ 6 iX7_endower P 3 [some (.inr 26), some (.inl a1), some (.inl a2), some (.inl a3), some (.inl (a4 + 1))] [] g) ∧ (¬ (bi (eB s g a3 a4.toNatClampNeg a2.toNatClampNeg)) = 0 → ((MW 27 s g ∧ inR (s 0) a4 = true) ∧ (((fI (-9) (qu s (eB s g a3) a4.toNatClampNeg) (s 0)) = (-9) → AW Γ 6 iX7_endower P 3 [some (.inr 26), some (.inl a1), some (.inl a2), some (.inl a3), some (.inl (a4 + 1))] [] g) ∧ (¬ (fI (-9) (qu s (eB s g a3) a4.toNatClampNeg) (s 0)) = (-9) → P a4 g))))))))))))))) : AW Γ 6 iX7_endower P 3 [some (.inr 26), some (.inl a1), some (.inl a2), some (.inl a3), some (.inl a4)] [] g :=
  (aw_iload dX7_endower_3 rfl (aw_aload_n dX7_endower_5 rfl (aw_getr 27 fkX7_7 fa_26_1 dX7_endower_6 (aw_iconst 0 dX7_endower_9 (by decide) (aw_iald aa_27 dX7_endower_10 (vp_lit 0 (by decide) (by decide)) (aw_icmp_ge 70 dX7_endower_11 (by decide) (fun c1 => (aw_bipush (-9) dX7_endower_70 (by decide) (aw_iret rfl (vp_nar_int _) dX7_endower_72 (h.1 c1)))) (fun c1 => (aw_aload_n dX7_endower_14 rfl (aw_iload dX7_endower_15 rfl (aw_iconst 3 dX7_endower_17 (by decide) (aw_callVi lkX7_112 ckX7_isOf ca_26 rfl (d := 3) (by decide) [.inl a4, .inl 3] rfl rfl (Nat.le_of_ble_eq_true rfl) dX7_endower_18 rfl (Runs.fn (ct_X7_isOf (h.2 c1).1) (aw_if_eq 64 dX7_endower_21 (by decide) (fun c2 => (aw_iinc (a4 + 1) [some (.inr 26), some (.inl a1), some (.inl a2), some (.inl a3), some (.inl (a4 + 1))] dX7_endower_64 rfl (by rfl) (by decide) rfl (aw_goto 3 dX7_endower_67 (by decide) (aw_mask [true, true, true, true, true] rfl ((h.2 c1).2.1 c2))))) (fun c2 => (aw_aload_n dX7_endower_24 rfl (aw_getr 27 fkX7_7 fa_26_1 dX7_endower_25 (aw_bipush 11 dX7_endower_28 (by decide) (aw_iload dX7_endower_30 rfl (aw_iadd dX7_endower_32 (aw_iald aa_27 dX7_endower_33 ((h.2 c1).2.2 c2).1 (aw_iload_n dX7_endower_34 rfl (aw_icmp_ne 64 dX7_endower_35 (by decide) (fun c3 => (aw_iinc (a4 + 1) [some (.inr 26), some (.inl a1), some (.inl a2), some (.inl a3), some (.inl (a4 + 1))] dX7_endower_64 rfl (by rfl) (by decide) rfl (aw_goto 3 dX7_endower_67 (by decide) (aw_mask [true, true, true, true, true] rfl (((h.2 c1).2.2 c2).2.1 c3))))) (fun c3 => (aw_aload_n dX7_endower_38 rfl (aw_iload dX7_endower_39 rfl (aw_iload_n dX7_endower_41 rfl (aw_iload_n dX7_endower_42 rfl (aw_callVi lkX7_122 ckX7_isFound ca_26 rfl (d := 1) (by decide) [.inl a4, .inl a2, .inl a3] rfl rfl (Nat.le_of_ble_eq_true rfl) dX7_endower_43 rfl (Runs.fn (ct_X7_isFound (((h.2 c1).2.2 c2).2.2 c3).1) (aw_if_eq 64 dX7_endower_46 (by decide) (fun c4 => (aw_iinc (a4 + 1) [some (.inr 26), some (.inl a1), some (.inl a2), some (.inl a3), some (.inl (a4 + 1))] dX7_endower_64 rfl (by rfl) (by decide) rfl (aw_goto 3 dX7_endower_67 (by decide) (aw_mask [true, true, true, true, true] rfl ((((h.2 c1).2.2 c2).2.2 c3).2.1 c4))))) (fun c4 => (aw_aload_n dX7_endower_49 rfl (aw_iload dX7_endower_50 rfl (aw_iload_n dX7_endower_52 rfl (aw_callVi lkX7_129 ckX7_userOf ca_26 rfl (d := 5) (by decide) [.inl a4, .inl a3] rfl rfl (Nat.le_of_ble_eq_true rfl) dX7_endower_53 rfl (Runs.fn (ct_X7_userOf ((((h.2 c1).2.2 c2).2.2 c3).2.2 c4).1) (aw_bipush (-9) dX7_endower_56 (by decide) (aw_icmp_eq 64 dX7_endower_58 (by decide) (fun c5 => (aw_iinc (a4 + 1) [some (.inr 26), some (.inl a1), some (.inl a2), some (.inl a3), some (.inl (a4 + 1))] dX7_endower_64 rfl (by rfl) (by decide) rfl (aw_goto 3 dX7_endower_67 (by decide) (aw_mask [true, true, true, true, true] rfl (((((h.2 c1).2.2 c2).2.2 c3).2.2 c4).2.1 c5))))) (fun c5 => (aw_iload dX7_endower_61 rfl (aw_iret rfl (vp_nar_int _) dX7_endower_63 (((((h.2 c1).2.2 c2).2.2 c3).2.2 c4).2.2 c5))))))))))))))))))))))))))))))))))))))))))
theorem lp_X7_endower {Γ : Gam} {P : Int32 → Mem → Prop} {s : St} {g : Mem} {a b : Nat} {t : Int32} (h : MW 27 s g) (ha : a < s 0) (hb : b < s 0) (hP : P (fI (-9) (qq s (eB s g t) 5 a b) (s 0)) g) : ∀ n i, i + n = s 0 → ff (qq s (eB s g t) 5 a b) 0 (s 0) = ff (qq s (eB s g t) 5 a b) i n → AW Γ 6 iX7_endower P 3 [some (.inr 26), some (.inl (nI a)), some (.inl (nI b)), some (.inl t), some (.inl (nI i))] [] g := by
  intro n
  have hn := h.2.n
  induction n with
  | zero =>
    intro i hi hf
    refine sg_X7_endower_3 s _ _ t _ ?_
    rw [h.at (show 0 < 81 by decide)]
    refine ⟨fun _ => ?_, fun c => absurd (nI_le (by omega) (by omega)) c⟩
    rw [fI_none (by rw [hf, ff]; omega)] at hP
    exact hP
  | succ n ih =>
    intro i hi hf
    have hfi := h.2.fi (i := i) (by omega)
    refine sg_X7_endower_3 s _ _ t _ ?_
    rw [h.at (show 0 < 81 by decide), nI_1, ix_nI (n := b) (by omega), ix_nI (n := i) (by omega), kz3 h.2 (by omega), n11, ix_nI (n := 11 + i) (by omega), h.at (show 11 + i < 81 by omega), nI_eq (by omega) (by omega), inR_nI (by omega), inR_nI (by omega), fI_neg (by omega) (by decide)]
    have nx : qq s (eB s g t) 5 a b i = false → AW Γ 6 iX7_endower P 3 [some (.inr 26), some (.inl (nI a)), some (.inl (nI b)), some (.inl t), some (.inl (nI (i + 1)))] [] g := fun e => ih (i + 1) (by omega) (by rw [hf, ff_F e])
    have yes : qq s (eB s g t) 5 a b i = true → P (nI i) g := fun e => by
      rw [fI_at (i := i) (by rw [hf, ff_T e]) (by omega)] at hP
      exact hP
    refine ⟨fun c => absurd c (nI_ge (by omega) (by omega)), fun _ => ⟨h, fun c2 => ?_, fun c2 => ⟨vp_nI (by omega) (by decide), fun c3 => ?_, fun c3 => ⟨⟨h, by simp; omega, by simp; omega⟩, fun c4 => ?_, fun c4 => ⟨⟨h, by simp; omega⟩, fun c5 => ?_, fun c5 => ?_⟩⟩⟩⟩⟩
    · rw [bi_eq0] at c2; exact nx (by simp [qq, q5, c2])
    · exact nx (by simp [qq, q5, c3])
    · rw [bi_eq0] at c4; exact nx (by simp [qq, q5, c4])
    · exact nx (by simp [qq, q5, c5])
    · rw [bi_ne0] at c2 c4; exact yes (by simp [qq, q5, c2, c3, c4, Decidable.not_not.mp c5])
theorem ct_X7_endower {Γ : Gam} {s : St} {g : Mem} {x y t : Int32} (h : MW 27 s g ∧ inR (s 0) x = true ∧ inR (s 0) y = true) : Runs Γ 6 yX7_endower iX7_endower [.inr 26, .inl x, .inl y, .inl t] g (fun r g' => r = fI (-9) (qq s (eB s g t) 5 x.toNatClampNeg y.toNatClampNeg) (s 0) ∧ g' = g) := by
  obtain ⟨h, jx, jy⟩ := h
  obtain ⟨x, hx, rfl⟩ := inR_ob jx
  obtain ⟨y, hy, rfl⟩ := inR_ob jy
  have hn := h.2.n
  rw [ix_nI (by omega), ix_nI (by omega)]
  exact Runs.intro (by decide) rfl (Nat.le_of_ble_eq_true rfl) (sg_X7_endower_0 _ _ t (lp_X7_endower h hx hy ⟨rfl, rfl⟩ (s 0) 0 (by omega) rfl))
theorem inI15 {r : Int32} (h : inI r 1 5 = true) : r = 1 ∨ r = 2 ∨ r = 3 ∨ r = 4 ∨ r = 5 := by
  simp only [inI, Bool.and_eq_true, decide_eq_true_eq, le_iff32] at h
  rw [show (1 : Int32).toInt = 1 from rfl, show (5 : Int32).toInt = 5 from rfl] at h
  rw [eq_iff32, eq_iff32, eq_iff32, eq_iff32, eq_iff32, show (1 : Int32).toInt = 1 from rfl, show (2 : Int32).toInt = 2 from rfl, show (3 : Int32).toInt = 3 from rfl, show (4 : Int32).toInt = 4 from rfl, show (5 : Int32).toInt = 5 from rfl]
  omega
theorem sg_X7_partnerBy_0 {Γ : Gam} {P : Int32 → Mem → Prop}  (s : St) (a1 a2 a3 a4 : Int32) {g : Mem} (h : ((¬ a1 = 1 → ((¬ a1 = 2 → ((¬ a1 = 3 → ((¬ a1 = 4 → ((MW 27 s g ∧ inR (s 0) a2 = true ∧ inR (s 0) a3 = true) ∧ P (fI (-9) (qq s (eB s g a4) 5 a2.toNatClampNeg a3.toNatClampNeg) (s 0)) g)) ∧ (a1 = 4 → ((MW 27 s g ∧ inR (s 0) a2 = true ∧ inR (s 0) a3 = true) ∧ P (fI (-9) (qq s (eB s g a4) 4 a2.toNatClampNeg a3.toNatClampNeg) (s 0)) g)))) ∧ (a1 = 3 → ((MW 27 s g ∧ inR (s 0) a2 = true ∧ inR (s 0) a3 = true) ∧ P (fI (-9) (qq s (eB s g a4) 3 a2.toNatClampNeg a3.toNatClampNeg) (s 0)) g)))) ∧ (a1 = 2 → ((MW 27 s g ∧ inR (s 0) a2 = true ∧ inR (s 0) a3 = true) ∧ P (fI (-9) (qq s (eB s g a4) 2 a2.toNatClampNeg a3.toNatClampNeg) (s 0)) g)))) ∧ (a1 = 1 → ((MW 27 s g ∧ inR (s 0) a2 = true ∧ inR (s 0) a3 = true) ∧ P (fI (-9) (qq s (eB s g a4) 1 a2.toNatClampNeg a3.toNatClampNeg) (s 0)) g)))) : AW Γ 7 iX7_partnerBy P 0 [some (.inr 26), some (.inl a1), some (.inl a2), some (.inl a3), some (.inl a4)] [] g :=
  (aw_iload_n dX7_partnerBy_0 rfl (aw_iconst 1 dX7_partnerBy_1 (by decide) (aw_icmp_ne 16 dX7_partnerBy_2 (by decide) (fun c1 => (aw_iload_n dX7_partnerBy_16 rfl (aw_iconst 2 dX7_partnerBy_17 (by decide) (aw_icmp_ne 32 dX7_partnerBy_18 (by decide) (fun c2 => (aw_iload_n dX7_partnerBy_32 rfl (aw_iconst 3 dX7_partnerBy_33 (by decide) (aw_icmp_ne 48 dX7_partnerBy_34 (by decide) (fun c3 => (aw_iload_n dX7_partnerBy_48 rfl (aw_iconst 4 dX7_partnerBy_49 (by decide) (aw_icmp_ne 64 dX7_partnerBy_50 (by decide) (fun c4 => (aw_aload_n dX7_partnerBy_64 rfl (aw_iload_n dX7_partnerBy_65 rfl (aw_iload_n dX7_partnerBy_66 rfl (aw_iload dX7_partnerBy_67 rfl (aw_callVi lkX7_144 ckX7_endower ca_26 rfl (d := 6) (by decide) [.inl a2, .inl a3, .inl a4] rfl rfl (Nat.le_of_ble_eq_true rfl) dX7_partnerBy_69 rfl (Runs.fn (ct_X7_endower ((((h.1 c1).1 c2).1 c3).1 c4).1) (aw_iret rfl (vp_nar_int _) dX7_partnerBy_72 ((((h.1 c1).1 c2).1 c3).1 c4).2)))))))) (fun c4 => (aw_aload_n dX7_partnerBy_53 rfl (aw_iload_n dX7_partnerBy_54 rfl (aw_iload_n dX7_partnerBy_55 rfl (aw_iload dX7_partnerBy_56 rfl (aw_callVi lkX7_141 ckX7_creator ca_26 rfl (d := 5) (by decide) [.inl a2, .inl a3, .inl a4] rfl rfl (Nat.le_of_ble_eq_true rfl) dX7_partnerBy_58 rfl (Runs.fn (ct_X7_creator ((((h.1 c1).1 c2).1 c3).2 c4).1) (aw_goto 72 dX7_partnerBy_61 (by decide) (aw_iret rfl (vp_nar_int _) dX7_partnerBy_72 ((((h.1 c1).1 c2).1 c3).2 c4).2))))))))))))) (fun c3 => (aw_aload_n dX7_partnerBy_37 rfl (aw_iload_n dX7_partnerBy_38 rfl (aw_iload_n dX7_partnerBy_39 rfl (aw_iload dX7_partnerBy_40 rfl (aw_callVi lkX7_138 ckX7_openedBox ca_26 rfl (d := 5) (by decide) [.inl a2, .inl a3, .inl a4] rfl rfl (Nat.le_of_ble_eq_true rfl) dX7_partnerBy_42 rfl (Runs.fn (ct_X7_openedBox (((h.1 c1).1 c2).2 c3).1) (aw_goto 72 dX7_partnerBy_45 (by decide) (aw_iret rfl (vp_nar_int _) dX7_partnerBy_72 (((h.1 c1).1 c2).2 c3).2))))))))))))) (fun c2 => (aw_aload_n dX7_partnerBy_21 rfl (aw_iload_n dX7_partnerBy_22 rfl (aw_iload_n dX7_partnerBy_23 rfl (aw_iload dX7_partnerBy_24 rfl (aw_callVi lkX7_135 ckX7_answerer ca_26 rfl (d := 5) (by decide) [.inl a2, .inl a3, .inl a4] rfl rfl (Nat.le_of_ble_eq_true rfl) dX7_partnerBy_26 rfl (Runs.fn (ct_X7_answerer ((h.1 c1).2 c2).1) (aw_goto 72 dX7_partnerBy_29 (by decide) (aw_iret rfl (vp_nar_int _) dX7_partnerBy_72 ((h.1 c1).2 c2).2))))))))))))) (fun c1 => (aw_aload_n dX7_partnerBy_5 rfl (aw_iload_n dX7_partnerBy_6 rfl (aw_iload_n dX7_partnerBy_7 rfl (aw_iload dX7_partnerBy_8 rfl (aw_callVi lkX7_132 ckX7_giver ca_26 rfl (d := 5) (by decide) [.inl a2, .inl a3, .inl a4] rfl rfl (Nat.le_of_ble_eq_true rfl) dX7_partnerBy_10 rfl (Runs.fn (ct_X7_giver (h.2 c1).1) (aw_goto 72 dX7_partnerBy_13 (by decide) (aw_iret rfl (vp_nar_int _) dX7_partnerBy_72 (h.2 c1).2))))))))))))
theorem ct_X7_partnerBy {Γ : Gam} {s : St} {g : Mem} {r x y t : Int32} (h : MW 27 s g ∧ inI r 1 5 = true ∧ inR (s 0) x = true ∧ inR (s 0) y = true) : Runs Γ 7 yX7_partnerBy iX7_partnerBy [.inr 26, .inl r, .inl x, .inl y, .inl t] g (fun v g' => v = fI (-9) (qq s (eB s g t) r.toNatClampNeg x.toNatClampNeg y.toNatClampNeg) (s 0) ∧ g' = g) := by
  obtain ⟨h1, hr, h2⟩ := h
  refine Runs.intro (by decide) rfl (Nat.le_of_ble_eq_true rfl) (sg_X7_partnerBy_0 s r x y t ?_)
  rcases inI15 hr with rfl | rfl | rfl | rfl | rfl
  · exact ⟨fun c => absurd rfl c, fun _ => ⟨⟨h1, h2⟩, rfl, rfl⟩⟩
  · exact ⟨fun _ => ⟨fun c => absurd rfl c, fun _ => ⟨⟨h1, h2⟩, rfl, rfl⟩⟩, fun c => absurd c (by decide)⟩
  · exact ⟨fun _ => ⟨fun _ => ⟨fun c => absurd rfl c, fun _ => ⟨⟨h1, h2⟩, rfl, rfl⟩⟩, fun c => absurd c (by decide)⟩, fun c => absurd c (by decide)⟩
  · exact ⟨fun _ => ⟨fun _ => ⟨fun _ => ⟨fun c => absurd rfl c, fun _ => ⟨⟨h1, h2⟩, rfl, rfl⟩⟩, fun c => absurd c (by decide)⟩, fun c => absurd c (by decide)⟩, fun c => absurd c (by decide)⟩
  · exact ⟨fun _ => ⟨fun _ => ⟨fun _ => ⟨fun _ => ⟨⟨h1, h2⟩, rfl, rfl⟩, fun c => absurd c (by decide)⟩, fun c => absurd c (by decide)⟩, fun c => absurd c (by decide)⟩, fun c => absurd c (by decide)⟩
def rlI (s : St) (E : Rel) (a b : Nat) : Int32 := if rl s E a b < 6 then nI (rl s E a b) else -9
theorem rl_lt (s : St) (E : Rel) (a b : Nat) : 1 ≤ rl s E a b ∧ rl s E a b ≤ 6 := ff_bounds _ 5 1
theorem rlI_neg {s : St} {E : Rel} {a b : Nat} : rlI s E a b = -9 ↔ der s E a b = false := by
  have h := rl_lt s E a b
  unfold rlI der
  by_cases q : rl s E a b < 6
  · rw [if_pos q, decide_eq_true q]
    exact ⟨fun e => absurd e (nI_ne_neg (by omega) (by decide)), fun e => by cases e⟩
  · rw [if_neg q, decide_eq_false q]
    exact ⟨fun _ => rfl, fun _ => rfl⟩
theorem sg_X7_ruleFor_0 {Γ : Gam} {P : Int32 → Mem → Prop}  (a1 a2 a3 : Int32) {g : Mem} (h : AW Γ 8 iX7_ruleFor P 3 [some (.inr 26), some (.inl a1), some (.inl a2), some (.inl a3), some (.inl 1)] [] g) : AW Γ 8 iX7_ruleFor P 0 [some (.inr 26), some (.inl a1), some (.inl a2), some (.inl a3)] [] g :=
  (aw_iconst 1 dX7_ruleFor_0 (by decide) (aw_istore [some (.inr 26), some (.inl a1), some (.inl a2), some (.inl a3), some (.inl 1)] dX7_ruleFor_1 (by decide) rfl (aw_mask [true, true, true, true, true] rfl h)))
theorem sg_X7_ruleFor_3 {Γ : Gam} {P : Int32 → Mem → Prop}  (s : St) (a1 a2 a3 a4 : Int32) {g : Mem} (h : ((5 < a4 → P (-9) g) ∧ (¬ (5 < a4) → ((MW 27 s g ∧ inI a4 1 5 = true ∧ inR (s 0) a1 = true ∧ inR (s 0) a2 = true) ∧ (((fI (-9) (qq s (eB s g a3) a4.toNatClampNeg a1.toNatClampNeg a2.toNatClampNeg) (s 0)) = (-9) → AW Γ 8 iX7_ruleFor P 3 [some (.inr 26), some (.inl a1), some (.inl a2), some (.inl a3), some (.inl (a4 + 1))] [] g) ∧ (¬ (fI (-9) (qq s (eB s g a3) a4.toNatClampNeg a1.toNatClampNeg a2.toNatClampNeg) (s 0)) = (-9) → P a4 g)))))) : AW Γ 8 iX7_ruleFor P 3 [some (.inr 26), some (.inl a1), some (.inl a2), some (.inl a3), some (.inl a4)] [] g :=
  (aw_iload dX7_ruleFor_3 rfl (aw_iconst 5 dX7_ruleFor_5 (by decide) (aw_icmp_gt 32 dX7_ruleFor_6 (by decide) (fun c1 => (aw_bipush (-9) dX7_ruleFor_32 (by decide) (aw_iret rfl (vp_nar_int _) dX7_ruleFor_34 (h.1 c1)))) (fun c1 => (aw_aload_n dX7_ruleFor_9 rfl (aw_iload dX7_ruleFor_10 rfl (aw_iload_n dX7_ruleFor_12 rfl (aw_iload_n dX7_ruleFor_13 rfl (aw_iload_n dX7_ruleFor_14 rfl (aw_callVi lkX7_147 ckX7_partnerBy ca_26 rfl (d := 7) (by decide) [.inl a4, .inl a1, .inl a2, .inl a3] rfl rfl (Nat.le_of_ble_eq_true rfl) dX7_ruleFor_15 rfl (Runs.fn (ct_X7_partnerBy (h.2 c1).1) (aw_bipush (-9) dX7_ruleFor_18 (by decide) (aw_icmp_eq 26 dX7_ruleFor_20 (by decide) (fun c2 => (aw_iinc (a4 + 1) [some (.inr 26), some (.inl a1), some (.inl a2), some (.inl a3), some (.inl (a4 + 1))] dX7_ruleFor_26 rfl (by rfl) (by decide) rfl (aw_goto 3 dX7_ruleFor_29 (by decide) (aw_mask [true, true, true, true, true] rfl ((h.2 c1).2.1 c2))))) (fun c2 => (aw_iload dX7_ruleFor_23 rfl (aw_iret rfl (vp_nar_int _) dX7_ruleFor_25 ((h.2 c1).2.2 c2)))))))))))))))))
theorem lp_X7_ruleFor {Γ : Gam} {P : Int32 → Mem → Prop} {s : St} {g : Mem} {a b : Nat} {t : Int32} (h : MW 27 s g) (ha : a < s 0) (hb : b < s 0) (hP : P (rlI s (eB s g t) a b) g) : ∀ n i, 1 ≤ i → i + n = 6 → rl s (eB s g t) a b = ff (fun r => decide (pt s (eB s g t) r a b < s 0)) i n → AW Γ 8 iX7_ruleFor P 3 [some (.inr 26), some (.inl (nI a)), some (.inl (nI b)), some (.inl t), some (.inl (nI i))] [] g := by
  intro n
  have hn := h.2.n
  induction n with
  | zero =>
    intro i h1 hi hf
    have e : i = 6 := by omega
    subst e
    refine sg_X7_ruleFor_3 s _ _ t _ ⟨fun _ => ?_, fun c => absurd (by decide) c⟩
    rw [ff] at hf
    rw [rlI, if_neg (by omega)] at hP
    exact hP
  | succ n ih =>
    intro i h1 hi hf
    refine sg_X7_ruleFor_3 s _ _ t _ ?_
    rw [nI_1, ix_nI (n := a) (by omega), ix_nI (n := b) (by omega), ix_nI (n := i) (by omega), inR_nI (by omega), inR_nI (by omega), fI_neg (by omega) (by decide), show (5 : Int32) = nI 5 from rfl, nI_ltI (by decide) (by omega)]
    refine ⟨fun c => by omega, fun _ => ⟨⟨h, ?_, by simp; omega, by simp; omega⟩, fun c1 => ?_, fun c1 => ?_⟩⟩
    · simp only [inI, Bool.and_eq_true, decide_eq_true_eq]
      exact ⟨nI_le h1 (by omega), nI_le (show i ≤ 5 by omega) (by decide)⟩
    · exact ih (i + 1) (by omega) (by omega) (by rw [hf, ff_F (p := fun r => decide (pt s (eB s g t) r a b < s 0)) (decide_eq_false c1)])
    · have e : rl s (eB s g t) a b = i := by rw [hf, ff_T (p := fun r => decide (pt s (eB s g t) r a b < s 0)) (decide_eq_true (Decidable.not_not.mp c1))]
      rw [rlI, e, if_pos (by omega)] at hP
      exact hP
theorem ct_X7_ruleFor {Γ : Gam} {s : St} {g : Mem} {x y t : Int32} (h : MW 27 s g ∧ inR (s 0) x = true ∧ inR (s 0) y = true) : Runs Γ 8 yX7_ruleFor iX7_ruleFor [.inr 26, .inl x, .inl y, .inl t] g (fun r g' => r = rlI s (eB s g t) x.toNatClampNeg y.toNatClampNeg ∧ g' = g) := by
  obtain ⟨h, jx, jy⟩ := h
  obtain ⟨x, hx, rfl⟩ := inR_ob jx
  obtain ⟨y, hy, rfl⟩ := inR_ob jy
  have hn := h.2.n
  rw [ix_nI (by omega), ix_nI (by omega)]
  exact Runs.intro (by decide) rfl (Nat.le_of_ble_eq_true rfl) (sg_X7_ruleFor_0 _ _ t (lp_X7_ruleFor h hx hy ⟨rfl, rfl⟩ 5 1 (by omega) (by omega) rfl))
