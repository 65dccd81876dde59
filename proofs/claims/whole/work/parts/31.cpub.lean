/-! The class's rounds: the initial ones, and what a round publishes. -/
/-- (x, y) comes ahead of (a, b) -/
def pr (a b x y : Nat) : Bool := decide (x < a ∨ (x = a ∧ y < b))
def pR (R : Rel) (a b : Nat) : Rel := fun x y => pr a b x y && R x y
theorem pR_0 (R : Rel) (x y : Nat) : pR R 0 0 x y = false := by
  unfold pR pr
  rw [decide_eq_false (by omega), Bool.false_and]
theorem pR_row {R : Rel} {a n x y : Nat} (hy : y < n) : pR R (a + 1) 0 x y = pR R a n x y := by
  unfold pR pr
  rw [decide_eq_decide.mpr (show (x < a + 1 ∨ (x = a + 1 ∧ y < 0)) ↔ (x < a ∨ (x = a ∧ y < n)) by omega)]
theorem pR_end {R : Rel} {n x y : Nat} (hx : x < n) : pR R n 0 x y = R x y := by
  unfold pR pr
  rw [decide_eq_true (Or.inl hx), Bool.true_and]
theorem pR_f {R : Rel} {a b : Nat} (h : R a b = false) (x y : Nat) : pR R a (b + 1) x y = pR R a b x y := by
  unfold pR pr
  by_cases e : x = a ∧ y = b
  · rw [e.1, e.2, h, Bool.and_false, Bool.and_false]
  · rw [decide_eq_decide.mpr (show (x < a ∨ (x = a ∧ y < b + 1)) ↔ (x < a ∨ (x = a ∧ y < b)) by omega)]
theorem pR_n {R : Rel} {a b x y : Nat} (h : ¬ (x = a ∧ y = b)) : pR R a (b + 1) x y = pR R a b x y := by
  unfold pR pr
  rw [decide_eq_decide.mpr (show (x < a ∨ (x = a ∧ y < b + 1)) ↔ (x < a ∨ (x = a ∧ y < b)) by omega)]
theorem pR_t {R : Rel} {a b : Nat} (h : R a b = true) : pR R a (b + 1) a b = true := by
  unfold pR pr
  rw [h, decide_eq_true (by omega)]; rfl
theorem pR_z (R : Rel) (a b : Nat) : pR R a b a b = false := by
  unfold pR pr
  rw [decide_eq_false (by omega), Bool.false_and]
theorem or_msk {p q : Nat → Bool} {n k : Nat} (hn : n ≤ 10) (hk : k < n) (h1 : q k = true) (h2 : ∀ j, j ≠ k → q j = p j) : nI (msk p n) ||| (1 <<< (nI k &&& 31)) = nI (msk q n) := by
  rw [bit_nI (by omega), fa_or']
  congr 1
  apply msk_eq
  intro j
  rw [Nat.testBit_or, msk_bit, Nat.testBit_two_pow]
  by_cases e : j = k
  · subst e; simp [h1, hk]
  · rw [h2 j e, decide_eq_false (p := k = j) (fun c => e c.symm), Bool.or_false]
/-- the initial references ahead of (a, b) are entered -/
def In (s : St) (g0 : Mem) (a b : Nat) (g : Mem) : Prop := (∀ k, k ≠ 14 → k ≠ 15 → k ≠ 16 → g k = g0 k) ∧ (∀ y, y < s 0 → g 14 y = nI (msk (fun x => pR (ini s 0) a b x y) (s 0))) ∧ ∀ x y, x < s 0 → y < s 0 → g 15 (10 * x + y) = (if pR (ini s 0) a b x y then 0 else -9) ∧ g 16 (10 * x + y) = (if pR (ini s 0) a b x y then 0 else -9)
theorem In_row {s : St} {g0 g : Mem} {a : Nat} (h : In s g0 a (s 0) g) : In s g0 (a + 1) 0 g := by
  refine ⟨h.1, fun y hy => ?_, fun x y hx hy => ?_⟩
  · rw [h.2.1 y hy]; exact congrArg nI (msk_cong (fun x _ => (pR_row hy).symm))
  · rw [pR_row hy]; exact h.2.2 x y hx hy
theorem In_f {s : St} {g0 g : Mem} {a b : Nat} (h : In s g0 a b g) (hi : ini s 0 a b = false) : In s g0 a (b + 1) g := by
  refine ⟨h.1, fun y hy => ?_, fun x y hx hy => ?_⟩
  · rw [h.2.1 y hy]; exact congrArg nI (msk_cong (fun x _ => (pR_f hi x y).symm))
  · rw [pR_f hi]; exact h.2.2 x y hx hy
theorem In_t {s : St} {g0 g : Mem} {a b : Nat} (hw : WF s) (ha : a < s 0) (hb : b < s 0) (h : In s g0 a b g) (hi : ini s 0 a b = true) : In s g0 a (b + 1) (up (up (up g 15 (10 * a + b) 0) 16 (10 * a + b) 0) 14 b (g 14 b ||| (1 <<< (nI a &&& 31)))) := by
  have hn := hw.n
  refine ⟨fun k k1 k2 k3 => by rw [up_ne k1, up_ne k3, up_ne k2, h.1 k k1 k2 k3], fun y hy => ?_, fun x y hx hy => ?_⟩
  · by_cases e : y = b
    · subst e
      rw [up_at, h.2.1 y hy]
      exact or_msk hn ha (pR_t hi) (fun j hj => pR_n (fun c => hj c.1))
    · rw [up_nx e, up_ne (by decide), up_ne (by decide), h.2.1 y hy]; exact congrArg nI (msk_cong (fun x _ => (pR_n (fun c => e c.2)).symm))
  · generalize g 14 b ||| (1 <<< (nI a &&& 31)) = V
    have e15 : ∀ i, up (up (up g 15 (10 * a + b) 0) 16 (10 * a + b) 0) 14 b V 15 i = if i = 10 * a + b then 0 else g 15 i := fun i => by simp [up, upd]
    have e16 : ∀ i, up (up (up g 15 (10 * a + b) 0) 16 (10 * a + b) 0) 14 b V 16 i = if i = 10 * a + b then 0 else g 16 i := fun i => by simp [up, upd]
    rw [e15, e16]
    by_cases e : x = a ∧ y = b
    · obtain ⟨rfl, rfl⟩ := e
      rw [if_pos rfl, if_pos rfl, pR_t hi]
      exact ⟨rfl, rfl⟩
    · have hne : ¬ 10 * x + y = 10 * a + b := by omega
      rw [if_neg hne, if_neg hne, pR_n e]
      exact h.2.2 x y hx hy
theorem sg_X0_findInitial_0 {Γ : Gam} {P : Int32 → Mem → Prop}  (a1 : Int32) {g : Mem} (h : AW Γ 2 iX0_findInitial P 2 [some (.inr 12), some (.inl a1), some (.inl 0)] [] g) : AW Γ 2 iX0_findInitial P 0 [some (.inr 12), some (.inl a1)] [] g :=
  (aw_iconst 0 dX0_findInitial_0 (by decide) (aw_istore_n [some (.inr 12), some (.inl a1), some (.inl 0)] dX0_findInitial_1 (by decide) rfl (aw_mask [true, true, true] rfl h)))
theorem sg_X0_findInitial_2 {Γ : Gam} {P : Int32 → Mem → Prop}  (a1 a2 : Int32) {g : Mem} (h : ((a1 ≤ a2 → P 0 g) ∧ (¬ (a1 ≤ a2) → AW Γ 2 iX0_findInitial P 9 [some (.inr 12), some (.inl a1), some (.inl a2), some (.inl 0)] [] g))) : AW Γ 2 iX0_findInitial P 2 [some (.inr 12), some (.inl a1), some (.inl a2)] [] g :=
  (aw_iload_n dX0_findInitial_2 rfl (aw_iload_n dX0_findInitial_3 rfl (aw_icmp_ge 74 dX0_findInitial_4 (by decide) (fun c1 => (aw_vret rfl dX0_findInitial_74 (h.1 c1))) (fun c1 => (aw_iconst 0 dX0_findInitial_7 (by decide) (aw_istore_n [some (.inr 12), some (.inl a1), some (.inl a2), some (.inl 0)] dX0_findInitial_8 (by decide) rfl (aw_mask [true, true, true, true] rfl (h.2 c1))))))))
theorem sg_X0_findInitial_9 {Γ : Gam} {P : Int32 → Mem → Prop}  (a1 a2 a3 : Int32) {g : Mem} (h : ((a1 ≤ a3 → AW Γ 2 iX0_findInitial P 2 [some (.inr 12), some (.inl a1), some (.inl (a2 + 1))] [] g) ∧ (¬ (a1 ≤ a3) → (vp_in a2 10 ∧ (((bi (hasB (g 13 a2.toNatClampNeg) a3)) = 0 → AW Γ 2 iX0_findInitial P 9 [some (.inr 12), some (.inl a1), some (.inl a2), some (.inl (a3 + 1))] [] g) ∧ (¬ (bi (hasB (g 13 a2.toNatClampNeg) a3)) = 0 → (vp_in (a2 * 10 + a3) 100 ∧ (vp_in (a2 * 10 + a3) 100 ∧ (vp_in a3 10 ∧ (vp_in a3 10 ∧ AW Γ 2 iX0_findInitial P 9 [some (.inr 12), some (.inl a1), some (.inl a2), some (.inl (a3 + 1))] [] (up (up (up g 15 (a2 * 10 + a3).toNatClampNeg 0) 16 (a2 * 10 + a3).toNatClampNeg 0) 14 a3.toNatClampNeg ((g 14 a3.toNatClampNeg) ||| (1 <<< (a2 &&& 31)))))))))))))) : AW Γ 2 iX0_findInitial P 9 [some (.inr 12), some (.inl a1), some (.inl a2), some (.inl a3)] [] g :=
  (aw_iload_n dX0_findInitial_9 rfl (aw_iload_n dX0_findInitial_10 rfl (aw_icmp_ge 68 dX0_findInitial_11 (by decide) (fun c1 => (aw_iinc (a2 + 1) [some (.inr 12), some (.inl a1), some (.inl (a2 + 1)), some (.inl a3)] dX0_findInitial_68 rfl (by rfl) (by decide) rfl (aw_goto 2 dX0_findInitial_71 (by decide) (aw_mask [true, true, true] rfl (h.1 c1))))) (fun c1 => (aw_aload_n dX0_findInitial_14 rfl (aw_getr 13 fkX0_9 fa_12_0 dX0_findInitial_15 (aw_iload_n dX0_findInitial_18 rfl (aw_iald aa_13 dX0_findInitial_19 (h.2 c1).1 (aw_iload_n dX0_findInitial_20 rfl (aw_callSNi nkX0_70 ckX6_contains (d := 1) (by decide) [.inl (g 13 a2.toNatClampNeg), .inl a3] rfl rfl (Nat.le_of_ble_eq_true rfl) dX0_findInitial_21 rfl (Runs.fn ct_X6_contains (aw_if_eq 62 dX0_findInitial_24 (by decide) (fun c2 => (aw_iinc (a3 + 1) [some (.inr 12), some (.inl a1), some (.inl a2), some (.inl (a3 + 1))] dX0_findInitial_62 rfl (by rfl) (by decide) rfl (aw_goto 9 dX0_findInitial_65 (by decide) (aw_mask [true, true, true, true] rfl ((h.2 c1).2.1 c2))))) (fun c2 => (aw_aload_n dX0_findInitial_27 rfl (aw_getr 15 fkX0_18 fa_12_2 dX0_findInitial_28 (aw_iload_n dX0_findInitial_31 rfl (aw_iload_n dX0_findInitial_32 rfl (aw_callSNi nkX0_74 ckX6_pair (d := 1) (by decide) [.inl a2, .inl a3] rfl rfl (Nat.le_of_ble_eq_true rfl) dX0_findInitial_33 rfl (Runs.fn ct_X6_pair (aw_iconst 0 dX0_findInitial_36 (by decide) (aw_iast aa_15 dX0_findInitial_37 ((h.2 c1).2.2 c2).1 (aw_aload_n dX0_findInitial_38 rfl (aw_getr 16 fkX0_21 fa_12_3 dX0_findInitial_39 (aw_iload_n dX0_findInitial_42 rfl (aw_iload_n dX0_findInitial_43 rfl (aw_callSNi nkX0_74 ckX6_pair (d := 1) (by decide) [.inl a2, .inl a3] rfl rfl (Nat.le_of_ble_eq_true rfl) dX0_findInitial_44 rfl (Runs.fn ct_X6_pair (aw_iconst 0 dX0_findInitial_47 (by decide) (aw_iast aa_16 dX0_findInitial_48 ((h.2 c1).2.2 c2).2.1 (aw_aload_n dX0_findInitial_49 rfl (aw_getr 14 fkX0_15 fa_12_1 dX0_findInitial_50 (aw_iload_n dX0_findInitial_53 rfl (aw_dup2 dX0_findInitial_54 (aw_iald aa_14 dX0_findInitial_55 ((h.2 c1).2.2 c2).2.2.1 (aw_iload_n dX0_findInitial_56 rfl (aw_callSNi nkX0_78 ckX6_bit (d := 1) (by decide) [.inl a2] rfl rfl (Nat.le_of_ble_eq_true rfl) dX0_findInitial_57 rfl (Runs.fn ct_X6_bit (aw_ior dX0_findInitial_60 (aw_iast aa_14 dX0_findInitial_61 ((h.2 c1).2.2 c2).2.2.2.1 (aw_iinc (a3 + 1) [some (.inr 12), some (.inl a1), some (.inl a2), some (.inl (a3 + 1))] dX0_findInitial_62 rfl (by rfl) (by decide) rfl (aw_goto 9 dX0_findInitial_65 (by decide) (aw_mask [true, true, true, true] rfl ((h.2 c1).2.2 c2).2.2.2.2))))))))))))))))))))))))))))))))))))))))))
theorem lp_X0_init9 {Γ : Gam} {P : Int32 → Mem → Prop} {s : St} {g0 : Mem} {a : Nat} (hw : WF s) (h13 : ∀ a, a < s 0 → g0 13 a = nI (msk (ini s 0 a) (s 0))) (ha : a < s 0) (hP : ∀ g, In s g0 (a + 1) 0 g → AW Γ 2 iX0_findInitial P 2 [some (.inr 12), some (.inl (nI (s 0))), some (.inl (nI (a + 1)))] [] g) : ∀ n b g, b + n = s 0 → In s g0 a b g → AW Γ 2 iX0_findInitial P 9 [some (.inr 12), some (.inl (nI (s 0))), some (.inl (nI a)), some (.inl (nI b))] [] g := by
  intro n
  have hn := hw.n
  induction n with
  | zero =>
    intro b g hb h
    refine sg_X0_findInitial_9 _ _ _ ?_
    rw [show b = s 0 by omega] at h ⊢
    rw [nI_1]
    exact ⟨fun _ => hP g (In_row h), fun c => absurd (nI_le (by omega) (by omega)) c⟩
  | succ n ih =>
    intro b g hb h
    have hbs : b < s 0 := by omega
    refine sg_X0_findInitial_9 _ _ _ ?_
    rw [ix_nI (n := a) (by omega), h.1 13 (by decide) (by decide) (by decide), h13 a ha, has_msk hn hbs, pairc, ix_nI (n := 10 * a + b) (by omega), ix_nI (n := b) (by omega), nI_1, nI_1]
    refine ⟨fun c => absurd c (nI_ge (by omega) (by omega)), fun _ => ⟨vp_nI (by omega) (by decide), fun c => ?_, fun c => ⟨vp_nI (by omega) (by decide), vp_nI (by omega) (by decide), vp_nI (by omega) (by decide), vp_nI (by omega) (by decide), ?_⟩⟩⟩
    · exact ih (b + 1) g (by omega) (In_f h (bi_eq0.mp c))
    · exact ih (b + 1) _ (by omega) (In_t hw ha hbs h (bi_ne0.mp c))
theorem lp_X0_init2 {Γ : Gam} {P : Int32 → Mem → Prop} {s : St} {g0 : Mem} (hw : WF s) (h13 : ∀ a, a < s 0 → g0 13 a = nI (msk (ini s 0 a) (s 0))) (hP : ∀ g, In s g0 (s 0) 0 g → P 0 g) : ∀ n a g, a + n = s 0 → In s g0 a 0 g → AW Γ 2 iX0_findInitial P 2 [some (.inr 12), some (.inl (nI (s 0))), some (.inl (nI a))] [] g := by
  intro n
  have hn := hw.n
  induction n with
  | zero =>
    intro a g ha h
    refine sg_X0_findInitial_2 _ _ ?_
    rw [show a = s 0 by omega] at h ⊢
    exact ⟨fun _ => hP g h, fun c => absurd (nI_le (by omega) (by omega)) c⟩
  | succ n ih =>
    intro a g ha h
    refine sg_X0_findInitial_2 _ _ ⟨fun c => absurd c (nI_ge (by omega) (by omega)), fun _ => ?_⟩
    exact lp_X0_init9 hw h13 (by omega) (fun g1 h1 => ih (a + 1) g1 (by omega) h1) (s 0) 0 g (by omega) h
theorem ct_X0_findInitial {Γ : Gam} {s : St} {g : Mem} (hw : WF s) (h13 : ∀ a, a < s 0 → g 13 a = nI (msk (ini s 0 a) (s 0))) (h14 : ∀ b, b < s 0 → g 14 b = 0) (h15 : ∀ i, i < 100 → g 15 i = -9) (h16 : ∀ i, i < 100 → g 16 i = -9) : Runs Γ 2 yX0_findInitial iX0_findInitial [.inr 12, .inl (nI (s 0))] g (fun _ g' => In s g (s 0) 0 g') := by
  have hn := hw.n
  have h0 : In s g 0 0 g := by
    refine ⟨fun _ _ _ _ => rfl, fun y hy => ?_, fun x y hx hy => ?_⟩
    · rw [h14 y hy, msk_cong (q := fun _ => false) (fun x _ => pR_0 _ x y)]
      have e : ∀ k, msk (fun _ => false) k = 0 := by
        intro k
        induction k with
        | zero => rfl
        | succ k ih => rw [or0 rfl, ih]
      rw [e]
      rfl
    · rw [h15 _ (by omega), h16 _ (by omega), pR_0]
      exact ⟨rfl, rfl⟩
  exact Runs.intro (by decide) rfl (Nat.le_of_ble_eq_true rfl) (sg_X0_findInitial_0 _ (lp_X0_init2 hw h13 (fun _ q => q) (s 0) 0 g (by omega) h0))
/-- what publish has done ahead of (a, b): R is what the round found -/
def Pb (s : St) (E R : Rel) (g0 : Mem) (a b : Nat) (g : Mem) : Prop := (∀ k, k ≠ 13 → k ≠ 14 → g k = g0 k) ∧ (∀ x, x < s 0 → g 13 x = nI (msk (fun y => E x y || pR R a b x y) (s 0))) ∧ ∀ y, y < s 0 → g 14 y = nI (msk (fun x => E x y || pR R a b x y) (s 0))
theorem Pb_row {s : St} {E R : Rel} {g0 g : Mem} {a : Nat} (h : Pb s E R g0 a (s 0) g) : Pb s E R g0 (a + 1) 0 g := by
  refine ⟨h.1, fun x hx => ?_, fun y hy => ?_⟩
  · rw [h.2.1 x hx]; exact congrArg nI (msk_cong (fun y hy => by rw [pR_row hy]))
  · rw [h.2.2 y hy]; exact congrArg nI (msk_cong (fun x _ => by rw [pR_row hy]))
theorem Pb_f {s : St} {E R : Rel} {g0 g : Mem} {a b : Nat} (h : Pb s E R g0 a b g) (hi : R a b = false) : Pb s E R g0 a (b + 1) g := by
  refine ⟨h.1, fun x hx => ?_, fun y hy => ?_⟩
  · rw [h.2.1 x hx]; exact congrArg nI (msk_cong (fun y hy => by rw [pR_f hi]))
  · rw [h.2.2 y hy]; exact congrArg nI (msk_cong (fun x _ => by rw [pR_f hi]))
theorem Pb_t {s : St} {E R : Rel} {g0 g : Mem} {a b : Nat} (hw : WF s) (ha : a < s 0) (hb : b < s 0) (h : Pb s E R g0 a b g) (hi : R a b = true) : Pb s E R g0 a (b + 1) (up (up g 13 a (g 13 a ||| (1 <<< (nI b &&& 31)))) 14 b (g 14 b ||| (1 <<< (nI a &&& 31)))) := by
  have hn := hw.n
  refine ⟨fun k k1 k2 => by rw [up_ne k2, up_ne k1, h.1 k k1 k2], fun x hx => ?_, fun y hy => ?_⟩
  · rw [up_ne (by decide)]
    by_cases e : x = a
    · subst e
      rw [up_at, h.2.1 x hx]
      exact or_msk hn hb (by rw [pR_t hi, Bool.or_true]) (fun j hj => by rw [pR_n (fun c => hj c.2)])
    · rw [up_nx e, h.2.1 x hx]; exact congrArg nI (msk_cong (fun y _ => by rw [pR_n (fun c => e c.1)]))
  · by_cases e : y = b
    · subst e
      rw [up_at, h.2.2 y hy]
      exact or_msk hn ha (by rw [pR_t hi, Bool.or_true]) (fun j hj => by rw [pR_n (fun c => hj c.1)])
    · rw [up_nx e, up_ne (by decide), h.2.2 y hy]; exact congrArg nI (msk_cong (fun x _ => by rw [pR_n (fun c => e c.2)]))
theorem sg_X0_publish_0 {Γ : Gam} {P : Int32 → Mem → Prop}  (a1 a2 : Int32) {g : Mem} (h : AW Γ 2 iX0_publish P 2 [some (.inr 12), some (.inl a1), some (.inl a2), some (.inl 0)] [] g) : AW Γ 2 iX0_publish P 0 [some (.inr 12), some (.inl a1), some (.inl a2)] [] g :=
  (aw_iconst 0 dX0_publish_0 (by decide) (aw_istore_n [some (.inr 12), some (.inl a1), some (.inl a2), some (.inl 0)] dX0_publish_1 (by decide) rfl (aw_mask [true, true, true, true] rfl h)))
theorem sg_X0_publish_2 {Γ : Gam} {P : Int32 → Mem → Prop}  (a1 a2 a3 : Int32) {g : Mem} (h : ((a1 ≤ a3 → P 0 g) ∧ (¬ (a1 ≤ a3) → AW Γ 2 iX0_publish P 10 [some (.inr 12), some (.inl a1), some (.inl a2), some (.inl a3), some (.inl 0)] [] g))) : AW Γ 2 iX0_publish P 2 [some (.inr 12), some (.inl a1), some (.inl a2), some (.inl a3)] [] g :=
  (aw_iload_n dX0_publish_2 rfl (aw_iload_n dX0_publish_3 rfl (aw_icmp_ge 71 dX0_publish_4 (by decide) (fun c1 => (aw_vret rfl dX0_publish_71 (h.1 c1))) (fun c1 => (aw_iconst 0 dX0_publish_7 (by decide) (aw_istore [some (.inr 12), some (.inl a1), some (.inl a2), some (.inl a3), some (.inl 0)] dX0_publish_8 (by decide) rfl (aw_mask [true, true, true, true, true] rfl (h.2 c1))))))))
theorem sg_X0_publish_10 {Γ : Gam} {P : Int32 → Mem → Prop}  (a1 a2 a3 a4 : Int32) {g : Mem} (h : ((a1 ≤ a4 → AW Γ 2 iX0_publish P 2 [some (.inr 12), some (.inl a1), some (.inl a2), some (.inl (a3 + 1))] [] g) ∧ (¬ (a1 ≤ a4) → (vp_in (a3 * 10 + a4) 100 ∧ ((¬ (g 15 (a3 * 10 + a4).toNatClampNeg) = a2 → AW Γ 2 iX0_publish P 10 [some (.inr 12), some (.inl a1), some (.inl a2), some (.inl a3), some (.inl (a4 + 1))] [] g) ∧ ((g 15 (a3 * 10 + a4).toNatClampNeg) = a2 → (vp_in a3 10 ∧ (vp_in a3 10 ∧ (vp_in a4 10 ∧ (vp_in a4 10 ∧ AW Γ 2 iX0_publish P 10 [some (.inr 12), some (.inl a1), some (.inl a2), some (.inl a3), some (.inl (a4 + 1))] [] (up (up g 13 a3.toNatClampNeg ((g 13 a3.toNatClampNeg) ||| (1 <<< (a4 &&& 31)))) 14 a4.toNatClampNeg ((g 14 a4.toNatClampNeg) ||| (1 <<< (a3 &&& 31)))))))))))))) : AW Γ 2 iX0_publish P 10 [some (.inr 12), some (.inl a1), some (.inl a2), some (.inl a3), some (.inl a4)] [] g :=
  (aw_iload dX0_publish_10 rfl (aw_iload_n dX0_publish_12 rfl (aw_icmp_ge 65 dX0_publish_13 (by decide) (fun c1 => (aw_iinc (a3 + 1) [some (.inr 12), some (.inl a1), some (.inl a2), some (.inl (a3 + 1)), some (.inl a4)] dX0_publish_65 rfl (by rfl) (by decide) rfl (aw_goto 2 dX0_publish_68 (by decide) (aw_mask [true, true, true, true] rfl (h.1 c1))))) (fun c1 => (aw_aload_n dX0_publish_16 rfl (aw_getr 15 fkX0_18 fa_12_2 dX0_publish_17 (aw_iload_n dX0_publish_20 rfl (aw_iload dX0_publish_21 rfl (aw_callSNi nkX0_74 ckX6_pair (d := 1) (by decide) [.inl a3, .inl a4] rfl rfl (Nat.le_of_ble_eq_true rfl) dX0_publish_23 rfl (Runs.fn ct_X6_pair (aw_iald aa_15 dX0_publish_26 (h.2 c1).1 (aw_iload_n dX0_publish_27 rfl (aw_icmp_ne 59 dX0_publish_28 (by decide) (fun c2 => (aw_iinc (a4 + 1) [some (.inr 12), some (.inl a1), some (.inl a2), some (.inl a3), some (.inl (a4 + 1))] dX0_publish_59 rfl (by rfl) (by decide) rfl (aw_goto 10 dX0_publish_62 (by decide) (aw_mask [true, true, true, true, true] rfl ((h.2 c1).2.1 c2))))) (fun c2 => (aw_aload_n dX0_publish_31 rfl (aw_getr 13 fkX0_9 fa_12_0 dX0_publish_32 (aw_iload_n dX0_publish_35 rfl (aw_dup2 dX0_publish_36 (aw_iald aa_13 dX0_publish_37 ((h.2 c1).2.2 c2).1 (aw_iload dX0_publish_38 rfl (aw_callSNi nkX0_78 ckX6_bit (d := 1) (by decide) [.inl a4] rfl rfl (Nat.le_of_ble_eq_true rfl) dX0_publish_40 rfl (Runs.fn ct_X6_bit (aw_ior dX0_publish_43 (aw_iast aa_13 dX0_publish_44 ((h.2 c1).2.2 c2).2.1 (aw_aload_n dX0_publish_45 rfl (aw_getr 14 fkX0_15 fa_12_1 dX0_publish_46 (aw_iload dX0_publish_49 rfl (aw_dup2 dX0_publish_51 (aw_iald aa_14 dX0_publish_52 ((h.2 c1).2.2 c2).2.2.1 (aw_iload_n dX0_publish_53 rfl (aw_callSNi nkX0_78 ckX6_bit (d := 1) (by decide) [.inl a3] rfl rfl (Nat.le_of_ble_eq_true rfl) dX0_publish_54 rfl (Runs.fn ct_X6_bit (aw_ior dX0_publish_57 (aw_iast aa_14 dX0_publish_58 ((h.2 c1).2.2 c2).2.2.2.1 (aw_iinc (a4 + 1) [some (.inr 12), some (.inl a1), some (.inl a2), some (.inl a3), some (.inl (a4 + 1))] dX0_publish_59 rfl (by rfl) (by decide) rfl (aw_goto 10 dX0_publish_62 (by decide) (aw_mask [true, true, true, true, true] rfl ((h.2 c1).2.2 c2).2.2.2.2)))))))))))))))))))))))))))))))))))))
theorem lp_X0_pub10 {Γ : Gam} {P : Int32 → Mem → Prop} {s : St} {E R : Rel} {g0 : Mem} {a r : Nat} (hw : WF s) (h15 : ∀ a b, a < s 0 → b < s 0 → (g0 15 (10 * a + b) = nI r ↔ R a b = true)) (ha : a < s 0) (hP : ∀ g, Pb s E R g0 (a + 1) 0 g → AW Γ 2 iX0_publish P 2 [some (.inr 12), some (.inl (nI (s 0))), some (.inl (nI r)), some (.inl (nI (a + 1)))] [] g) : ∀ n b g, b + n = s 0 → Pb s E R g0 a b g → AW Γ 2 iX0_publish P 10 [some (.inr 12), some (.inl (nI (s 0))), some (.inl (nI r)), some (.inl (nI a)), some (.inl (nI b))] [] g := by
  intro n
  have hn := hw.n
  induction n with
  | zero =>
    intro b g hb h
    refine sg_X0_publish_10 _ _ _ _ ?_
    rw [show b = s 0 by omega] at h ⊢
    rw [nI_1]
    exact ⟨fun _ => hP g (Pb_row h), fun c => absurd (nI_le (by omega) (by omega)) c⟩
  | succ n ih =>
    intro b g hb h
    have hbs : b < s 0 := by omega
    refine sg_X0_publish_10 _ _ _ _ ?_
    rw [pairc, ix_nI (n := 10 * a + b) (by omega), ix_nI (n := a) (by omega), ix_nI (n := b) (by omega), h.1 15 (by decide) (by decide), h15 a b ha hbs, nI_1, nI_1]
    refine ⟨fun c => absurd c (nI_ge (by omega) (by omega)), fun _ => ⟨vp_nI (by omega) (by decide), fun c => ?_, fun c => ⟨vp_nI (by omega) (by decide), vp_nI (by omega) (by decide), vp_nI (by omega) (by decide), vp_nI (by omega) (by decide), ?_⟩⟩⟩
    · exact ih (b + 1) g (by omega) (Pb_f h (by simpa using c))
    · exact ih (b + 1) _ (by omega) (Pb_t hw ha hbs h c)
theorem lp_X0_pub2 {Γ : Gam} {P : Int32 → Mem → Prop} {s : St} {E R : Rel} {g0 : Mem} {r : Nat} (hw : WF s) (h15 : ∀ a b, a < s 0 → b < s 0 → (g0 15 (10 * a + b) = nI r ↔ R a b = true)) (hP : ∀ g, Pb s E R g0 (s 0) 0 g → P 0 g) : ∀ n a g, a + n = s 0 → Pb s E R g0 a 0 g → AW Γ 2 iX0_publish P 2 [some (.inr 12), some (.inl (nI (s 0))), some (.inl (nI r)), some (.inl (nI a))] [] g := by
  intro n
  have hn := hw.n
  induction n with
  | zero =>
    intro a g ha h
    refine sg_X0_publish_2 _ _ _ ?_
    rw [show a = s 0 by omega] at h ⊢
    exact ⟨fun _ => hP g h, fun c => absurd (nI_le (by omega) (by omega)) c⟩
  | succ n ih =>
    intro a g ha h
    refine sg_X0_publish_2 _ _ _ ⟨fun c => absurd c (nI_ge (by omega) (by omega)), fun _ => ?_⟩
    exact lp_X0_pub10 hw h15 (by omega) (fun g1 h1 => ih (a + 1) g1 (by omega) h1) (s 0) 0 g (by omega) h
theorem ct_X0_publish {Γ : Gam} {s : St} {E R : Rel} {g : Mem} {r : Nat} (hw : WF s) (h13 : ∀ a, a < s 0 → g 13 a = nI (msk (E a) (s 0))) (h14 : ∀ b, b < s 0 → g 14 b = nI (msk (fun a => E a b) (s 0))) (h15 : ∀ a b, a < s 0 → b < s 0 → (g 15 (10 * a + b) = nI r ↔ R a b = true)) : Runs Γ 2 yX0_publish iX0_publish [.inr 12, .inl (nI (s 0)), .inl (nI r)] g (fun _ g' => (∀ k, k ≠ 13 → k ≠ 14 → g' k = g k) ∧ (∀ x, x < s 0 → g' 13 x = nI (msk (fun y => E x y || R x y) (s 0))) ∧ ∀ y, y < s 0 → g' 14 y = nI (msk (fun x => E x y || R x y) (s 0))) := by
  have hn := hw.n
  have h0 : Pb s E R g 0 0 g := by
    refine ⟨fun _ _ _ => rfl, fun x hx => ?_, fun y hy => ?_⟩
    · rw [h13 x hx]; exact congrArg nI (msk_cong (fun y _ => by rw [pR_0, Bool.or_false]))
    · rw [h14 y hy]; exact congrArg nI (msk_cong (fun x _ => by rw [pR_0, Bool.or_false]))
  refine Runs.intro (by decide) rfl (Nat.le_of_ble_eq_true rfl) (sg_X0_publish_0 _ _ (lp_X0_pub2 hw h15 (fun g1 q => ?_) (s 0) 0 g (by omega) h0))
  refine ⟨q.1, fun x hx => ?_, fun y hy => ?_⟩
  · rw [q.2.1 x hx]; exact congrArg nI (msk_cong (fun y _ => by rw [pR_end hx]))
  · rw [q.2.2 y hy]; exact congrArg nI (msk_cong (fun x hx => by rw [pR_end hx]))
