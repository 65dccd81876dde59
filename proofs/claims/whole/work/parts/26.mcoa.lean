/-! More references never yield less. -/
theorem ff_mono {p q : Nat → Bool} {n : Nat} (h : ∀ j, p j = true → q j = true) (hp : ff p 0 n < n) : ff q 0 n < n := by
  have h1 := ff_yes p n 0 (by omega)
  have := (ff_lt q n 0).mpr ⟨_, Nat.zero_le _, by omega, h _ h1⟩
  omega
theorem qq_mono {s : St} {E F : Rel} (h : ∀ a b, E a b = true → F a b = true) {r a b x : Nat} (hq : qq s E r a b x = true) : qq s F r a b x = true := by
  unfold qq at hq ⊢
  split
  · rename_i e
    rw [if_pos e] at hq
    simp only [q1, Bool.and_eq_true, Bool.or_eq_true] at hq ⊢
    exact ⟨hq.1, hq.2.1, h _ _ hq.2.2.1, hq.2.2.2.imp id (h _ _)⟩
  · rename_i e
    rw [if_neg e] at hq
    split
    · rename_i e
      rw [if_pos e] at hq
      simp only [q2, Bool.and_eq_true] at hq ⊢
      exact ⟨hq.1, hq.2.1, h _ _ hq.2.2.1, h _ _ hq.2.2.2⟩
    · rename_i e
      rw [if_neg e] at hq
      split
      · rename_i e
        rw [if_pos e] at hq
        simp only [q3, Bool.and_eq_true, decide_eq_true_eq] at hq ⊢
        exact ⟨hq.1, hq.2.1, hq.2.2.1, h _ _ hq.2.2.2.1, ff_mono (fun j hj => by
          simp only [qk, Bool.and_eq_true] at hj ⊢
          exact ⟨hj.1, hj.2.1, h _ _ hj.2.2⟩) hq.2.2.2.2⟩
      · rename_i e
        rw [if_neg e] at hq
        split
        · rename_i e
          rw [if_pos e] at hq
          simp only [q4, Bool.and_eq_true] at hq ⊢
          exact ⟨hq.1, hq.2.1, hq.2.2.1, h _ _ hq.2.2.2⟩
        · rename_i e
          rw [if_neg e] at hq
          simp only [q5, Bool.and_eq_true, decide_eq_true_eq] at hq ⊢
          exact ⟨hq.1, hq.2.1, h _ _ hq.2.2.1, ff_mono (fun j hj => by
            simp only [qu, Bool.and_eq_true] at hj ⊢
            exact ⟨hj.1, h _ _ hj.2⟩) hq.2.2.2⟩
theorem der_iff {s : St} {E : Rel} {a b : Nat} : der s E a b = true ↔ ∃ r x, 1 ≤ r ∧ r < 6 ∧ x < s 0 ∧ qq s E r a b x = true := by
  unfold der
  rw [decide_eq_true_eq]
  have hl : rl s E a b < 6 ↔ ∃ r, 1 ≤ r ∧ r < 6 ∧ decide (pt s E r a b < s 0) = true := ff_lt (fun r => decide (pt s E r a b < s 0)) 5 1
  rw [hl]
  constructor
  · intro ⟨r, h1, h2, h3⟩
    have h4 : pt s E r a b < s 0 := of_decide_eq_true h3
    exact ⟨r, pt s E r a b, h1, h2, h4, ff_yes _ (s 0) 0 (by unfold pt at h4; omega)⟩
  · intro ⟨r, x, h1, h2, h3, h4⟩
    refine ⟨r, h1, h2, decide_eq_true ?_⟩
    have := (ff_lt (qq s E r a b) (s 0) 0).mpr ⟨x, Nat.zero_le _, by omega, h4⟩
    unfold pt
    omega
theorem der_mono {s : St} {E F : Rel} (h : ∀ a b, E a b = true → F a b = true) {a b : Nat} (hd : der s E a b = true) : der s F a b = true := by
  obtain ⟨r, x, h1, h2, h3, h4⟩ := der_iff.mp hd
  exact der_iff.mpr ⟨r, x, h1, h2, h3, qq_mono h h4⟩
theorem it_sub {s : St} {rem : Nat} {G : Rel} (h0 : ∀ a b, ini s rem a b = true → G a b = true) (h5 : cl5 s G) : ∀ r a b, it s rem r a b = true → G a b = true
  | 0, a, b, h => h0 a b h
  | r + 1, a, b, h => by
    rw [it, nxt, Bool.or_eq_true] at h
    rcases h with h | h
    · exact it_sub h0 h5 r a b h
    · simp only [Bool.and_eq_true, decide_eq_true_eq] at h
      exact h5 a b h.1 h.2.1 (der_mono (fun a b => it_sub h0 h5 r a b) h.2.2)
theorem fnd_cl5 {s : St} (hw : WF s) (rem : Nat) : cl5 s (fnd s rem) := by
  intro a b ha hb hd
  cases e : fnd s rem a b with
  | true => rfl
  | false =>
    have h1 := it_new ha hb (r := LR s rem) (rem := rem) e
    rw [stb_eq hw (LR_stb hw rem)] at h1
    unfold fnd at e hd
    rw [e, hd] at h1
    cases h1
theorem ini_fnd {s : St} {rem a b : Nat} (h : ini s rem a b = true) : fnd s rem a b = true := it_le (r := 0) (Nat.zero_le _) h
theorem fnd_least {s : St} {rem : Nat} {G : Rel} (h0 : ∀ a b, ini s rem a b = true → G a b = true) (h5 : cl5 s G) {a b : Nat} (h : fnd s rem a b = true) : G a b = true := it_sub h0 h5 _ a b h
theorem lf6_same {s : St} {E F : Rel} (hE : lf6 s E) (hF : lf6 s F) {a b : Nat} (ha : a < s 0) (hb : b < s 0) : E a b = F a b := by
  rw [Bool.eq_iff_iff]
  exact ⟨hE.2.2.2 F hF.1 hF.2.1 hF.2.2.1 a b ha hb, hF.2.2.2 E hE.1 hE.2.1 hE.2.2.1 a b ha hb⟩
/-- the coarse relation -/
noncomputable def cM (s : St) : Rel := fun a b => @decide (∃ E, lf6 s E ∧ E a b = true) (Classical.propDecidable _)
theorem cM_eq {s : St} {E : Rel} (hE : lf6 s E) {a b : Nat} (ha : a < s 0) (hb : b < s 0) : cM s a b = E a b := by
  unfold cM
  rw [Bool.eq_iff_iff]
  constructor
  · intro h
    obtain ⟨F, hF, h⟩ := @of_decide_eq_true _ (Classical.propDecidable _) h
    rw [lf6_same hE hF ha hb]; exact h
  · intro h
    exact @decide_eq_true _ (Classical.propDecidable _) ⟨E, hE, h⟩
/-! The reference's coarse analysis. -/
/-- the entries of the rounds, as a relation -/
def Fr (s : St) (g : Mem) : Rel := fun a b => decide (a < s 0) && (decide (b < s 0) && decide (¬ g 31 (10 * a + b) = -9))
theorem Fr_iff {s : St} {g : Mem} {a b : Nat} (ha : a < s 0) (hb : b < s 0) : Fr s g a b = false ↔ g 31 (10 * a + b) = -9 := by
  unfold Fr
  simp [ha, hb]
theorem Fr_t {s : St} {g : Mem} {a b : Nat} : Fr s g a b = true ↔ a < s 0 ∧ b < s 0 ∧ ¬ g 31 (10 * a + b) = -9 := by
  unfold Fr
  simp
/-- the entries grow by zeros -/
def Gw (s : St) (g g' : Mem) : Prop := (∀ k, k ≠ 31 → g' k = g k) ∧ ∀ a b, a < s 0 → b < s 0 → g' 31 (10 * a + b) = g 31 (10 * a + b) ∨ (g 31 (10 * a + b) = -9 ∧ g' 31 (10 * a + b) = 0)
theorem Gw.rf {s : St} {g : Mem} : Gw s g g := ⟨fun _ _ => rfl, fun _ _ _ _ => Or.inl rfl⟩
theorem Gw.sub {s : St} {g g' : Mem} (h : Gw s g g') {a b : Nat} (hf : Fr s g a b = true) : Fr s g' a b = true := by
  obtain ⟨ha, hb, hc⟩ := Fr_t.mp hf
  refine Fr_t.mpr ⟨ha, hb, ?_⟩
  rcases h.2 a b ha hb with e | e
  · rw [e]; exact hc
  · exact absurd e.1 hc
theorem Gw.trans {s : St} {g1 g2 g3 : Mem} (h : Gw s g1 g2) (h' : Gw s g2 g3) : Gw s g1 g3 := by
  refine ⟨fun k hk => by rw [h'.1 k hk, h.1 k hk], fun a b ha hb => ?_⟩
  rcases h'.2 a b ha hb with e | ⟨e1, e2⟩
  · rcases h.2 a b ha hb with d | ⟨d1, d2⟩
    · exact Or.inl (e.trans d)
    · exact Or.inr ⟨d1, e.trans d2⟩
  · rcases h.2 a b ha hb with d | ⟨d1, d2⟩
    · exact Or.inr ⟨d ▸ e1, e2⟩
    · rw [d2] at e1; exact absurd e1 (by decide)
theorem Gw.up {s : St} {g : Mem} {a b : Nat} (hw : WF s) (ha : a < s 0) (hb : b < s 0) (h : g 31 (10 * a + b) = -9) : Gw s g (up g 31 (10 * a + b) 0) := by
  have hn := hw.n
  refine ⟨fun k hk => up_ne hk, fun a' b' h1 h2 => ?_⟩
  by_cases e : 10 * a' + b' = 10 * a + b
  · right; rw [e, up_at]; exact ⟨h, rfl⟩
  · left; rw [up_nx e]
theorem Fr_up {s : St} {g : Mem} {a b : Nat} (hw : WF s) (ha : a < s 0) (hb : b < s 0) {x y : Nat} (h : Fr s (up g 31 (10 * a + b) 0) x y = true) : (x = a ∧ y = b) ∨ Fr s g x y = true := by
  have hn := hw.n
  obtain ⟨hx, hy, hc⟩ := Fr_t.mp h
  by_cases e : 10 * x + y = 10 * a + b
  · left; omega
  · right
    rw [up_nx e] at hc
    exact Fr_t.mpr ⟨hx, hy, hc⟩
/-- a pass of mergeGroups: what the groups o and w ask for, of the pairs ahead of (a, b) -/
def Mg (s : St) (g : Mem) (o w a b : Nat) (f : Bool) (g' : Mem) : Prop := Gw s g g' ∧ (f = false → ∀ x y, Fr s g' x y = true → Fr s g x y = true) ∧ (f = true → ∃ x y, Fr s g x y = false ∧ Fr s g' x y = true) ∧ (∀ x y, x < s 0 → y < s 0 → (x < a ∨ (x = a ∧ y < b)) → s (31 + x) = o → s (31 + y) = w → hz s x = true → Fr s g' x y = true) ∧ (∀ x y, Fr s g' x y = true → Fr s g x y = true ∨ (s (31 + x) = o ∧ s (31 + y) = w ∧ hz s x = true))
theorem hz_nI {s : St} (hw : WF s) {x : Nat} (hx : x < 2 ^ 31) : isH s (nI x) = hz s x := by
  unfold isH hz
  rw [kz0 hw hx, kz3 hw hx]
theorem Mg_skip {s : St} {g g' : Mem} {o w a b : Nat} {f : Bool} (h : Mg s g o w a b f g') (hc : s (31 + a) = o → s (31 + b) = w → hz s a = true → Fr s g' a b = true) : Mg s g o w a (b + 1) f g' := by
  obtain ⟨h1, h2, h3, h4, h5⟩ := h
  refine ⟨h1, h2, h3, fun x y hx hy hp e1 e2 e3 => ?_, h5⟩
  by_cases e : x = a ∧ y = b
  · obtain ⟨rfl, rfl⟩ := e; exact hc e1 e2 e3
  · exact h4 x y hx hy (by omega) e1 e2 e3
theorem Mg_add {s : St} (hw : WF s) {g g' : Mem} {o w a b : Nat} {f : Bool} (h : Mg s g o w a b f g') (ha : a < s 0) (hb : b < s 0) (hc : g' 31 (10 * a + b) = -9) (c1 : s (31 + a) = o) (c2 : s (31 + b) = w) (c3 : hz s a = true) : Mg s g o w a (b + 1) true (up g' 31 (10 * a + b) 0) := by
  obtain ⟨h1, h2, h3, h4, h5⟩ := h
  have gu := Gw.up hw ha hb hc
  have hab : Fr s (up g' 31 (10 * a + b) 0) a b = true := Fr_t.mpr ⟨ha, hb, by rw [up_at]; decide⟩
  have hg : Fr s g a b = false := by
    cases e : Fr s g a b with
    | false => rfl
    | true =>
      have := h1.sub e
      rw [(Fr_iff ha hb).mpr hc] at this
      cases this
  refine ⟨h1.trans gu, fun e => Bool.noConfusion e, fun _ => ⟨a, b, hg, hab⟩, fun x y hx hy hp e1 e2 e3 => ?_, fun x y hf => ?_⟩
  · by_cases e : x = a ∧ y = b
    · obtain ⟨rfl, rfl⟩ := e; exact hab
    · exact gu.sub (h4 x y hx hy (by omega) e1 e2 e3)
  · rcases Fr_up hw ha hb hf with ⟨rfl, rfl⟩ | e
    · exact Or.inr ⟨c1, c2, c3⟩
    · exact h5 x y e
theorem sg_X7_mergeGroups_0 {Γ : Gam} {P : Int32 → Mem → Prop}  (a1 a2 : Int32) {g : Mem} (h : AW Γ 3 iX7_mergeGroups P 5 [some (.inr 26), some (.inl a1), some (.inl a2), some (.inl 0), some (.inl 0)] [] g) : AW Γ 3 iX7_mergeGroups P 0 [some (.inr 26), some (.inl a1), some (.inl a2)] [] g :=
  (aw_iconst 0 dX7_mergeGroups_0 (by decide) (aw_istore_n [some (.inr 26), some (.inl a1), some (.inl a2), some (.inl 0)] dX7_mergeGroups_1 (by decide) rfl (aw_iconst 0 dX7_mergeGroups_2 (by decide) (aw_istore [some (.inr 26), some (.inl a1), some (.inl a2), some (.inl 0), some (.inl 0)] dX7_mergeGroups_3 (by decide) rfl (aw_mask [true, true, true, true, true] rfl h)))))
theorem sg_X7_mergeGroups_5 {Γ : Gam} {P : Int32 → Mem → Prop}  (a1 a2 a3 a4 : Int32) {g : Mem} (h : (((g 27 0) ≤ a4 → (bz a3 ∧ P a3 g)) ∧ (¬ ((g 27 0) ≤ a4) → AW Γ 3 iX7_mergeGroups P 19 [some (.inr 26), some (.inl a1), some (.inl a2), some (.inl a3), some (.inl a4), some (.inl 0)] [] g))) : AW Γ 3 iX7_mergeGroups P 5 [some (.inr 26), some (.inl a1), some (.inl a2), some (.inl a3), some (.inl a4)] [] g :=
  (aw_iload dX7_mergeGroups_5 rfl (aw_aload_n dX7_mergeGroups_7 rfl (aw_getr 27 fkX7_7 fa_26_1 dX7_mergeGroups_8 (aw_iconst 0 dX7_mergeGroups_11 (by decide) (aw_iald aa_27 dX7_mergeGroups_12 (vp_lit 0 (by decide) (by decide)) (aw_icmp_ge 157 dX7_mergeGroups_13 (by decide) (fun c1 => (aw_iload_n dX7_mergeGroups_157 rfl (aw_iret rfl (h.1 c1).1 dX7_mergeGroups_158 (h.1 c1).2))) (fun c1 => (aw_iconst 0 dX7_mergeGroups_16 (by decide) (aw_istore [some (.inr 26), some (.inl a1), some (.inl a2), some (.inl a3), some (.inl a4), some (.inl 0)] dX7_mergeGroups_17 (by decide) rfl (aw_mask [true, true, true, true, true, true] rfl (h.2 c1)))))))))))
theorem sg_X7_mergeGroups_19 {Γ : Gam} {P : Int32 → Mem → Prop}  (s : St) (a1 a2 a3 a4 a5 : Int32) {g : Mem} (h : (((g 27 0) ≤ a5 → AW Γ 3 iX7_mergeGroups P 5 [some (.inr 26), some (.inl a1), some (.inl a2), some (.inl a3), some (.inl (a4 + 1))] [] g) ∧ (¬ ((g 27 0) ≤ a5) → (vp_in (31 + a4) 81 ∧ ((¬ (g 27 (31 + a4).toNatClampNeg) = a1 → AW Γ 3 iX7_mergeGroups P 92 [some (.inr 26), some (.inl a1), some (.inl a2), some (.inl a3), some (.inl a4), some (.inl a5)] [] g) ∧ ((g 27 (31 + a4).toNatClampNeg) = a1 → (vp_in (31 + a5) 81 ∧ ((¬ (g 27 (31 + a5).toNatClampNeg) = a2 → AW Γ 3 iX7_mergeGroups P 92 [some (.inr 26), some (.inl a1), some (.inl a2), some (.inl a3), some (.inl a4), some (.inl a5)] [] g) ∧ ((g 27 (31 + a5).toNatClampNeg) = a2 → (MW 27 s g ∧ (((bi (isH s a4)) = 0 → AW Γ 3 iX7_mergeGroups P 92 [some (.inr 26), some (.inl a1), some (.inl a2), some (.inl a3), some (.inl a4), some (.inl a5)] [] g) ∧ (¬ (bi (isH s a4)) = 0 → (vp_in ((10 * a4) + a5) 100 ∧ ((¬ (g 31 ((10 * a4) + a5).toNatClampNeg) = (-9) → AW Γ 3 iX7_mergeGroups P 92 [some (.inr 26), some (.inl a1), some (.inl a2), some (.inl a3), some (.inl a4), some (.inl a5)] [] g) ∧ ((g 31 ((10 * a4) + a5).toNatClampNeg) = (-9) → AW Γ 3 iX7_mergeGroups P 93 [some (.inr 26), some (.inl a1), some (.inl a2), some (.inl a3), some (.inl a4), some (.inl a5)] [.inl 1] g))))))))))))))) : AW Γ 3 iX7_mergeGroups P 19 [some (.inr 26), some (.inl a1), some (.inl a2), some (.inl a3), some (.inl a4), some (.inl a5)] [] g :=
  (aw_iload dX7_mergeGroups_19 rfl (aw_aload_n dX7_mergeGroups_21 rfl (aw_getr 27 fkX7_7 fa_26_1 dX7_mergeGroups_22 (aw_iconst 0 dX7_mergeGroups_25 (by decide) (aw_iald aa_27 dX7_mergeGroups_26 (vp_lit 0 (by decide) (by decide)) (aw_icmp_ge 151 dX7_mergeGroups_27 (by decide) (fun c1 => (aw_iinc (a4 + 1) [some (.inr 26), some (.inl a1), some (.inl a2), some (.inl a3), some (.inl (a4 + 1)), some (.inl a5)] dX7_mergeGroups_151 rfl (by rfl) (by decide) rfl (aw_goto 5 dX7_mergeGroups_154 (by decide) (aw_mask [true, true, true, true, true] rfl (h.1 c1))))) (fun c1 => (aw_aload_n dX7_mergeGroups_30 rfl (aw_getr 27 fkX7_7 fa_26_1 dX7_mergeGroups_31 (aw_bipush 31 dX7_mergeGroups_34 (by decide) (aw_iload dX7_mergeGroups_36 rfl (aw_iadd dX7_mergeGroups_38 (aw_iald aa_27 dX7_mergeGroups_39 (h.2 c1).1 (aw_iload_n dX7_mergeGroups_40 rfl (aw_icmp_ne 92 dX7_mergeGroups_41 (by decide) (fun c2 => (aw_mask [true, true, true, true, true, true] rfl ((h.2 c1).2.1 c2))) (fun c2 => (aw_aload_n dX7_mergeGroups_44 rfl (aw_getr 27 fkX7_7 fa_26_1 dX7_mergeGroups_45 (aw_bipush 31 dX7_mergeGroups_48 (by decide) (aw_iload dX7_mergeGroups_50 rfl (aw_iadd dX7_mergeGroups_52 (aw_iald aa_27 dX7_mergeGroups_53 ((h.2 c1).2.2 c2).1 (aw_iload_n dX7_mergeGroups_54 rfl (aw_icmp_ne 92 dX7_mergeGroups_55 (by decide) (fun c3 => (aw_mask [true, true, true, true, true, true] rfl (((h.2 c1).2.2 c2).2.1 c3))) (fun c3 => (aw_aload_n dX7_mergeGroups_58 rfl (aw_getr 27 fkX7_7 fa_26_1 dX7_mergeGroups_59 (aw_iload dX7_mergeGroups_62 rfl (aw_callSi lkX7_84 ckX7_isHolder (d := 2) (by decide) [.inr 27, .inl a4] rfl rfl (Nat.le_of_ble_eq_true rfl) dX7_mergeGroups_64 rfl (Runs.fn ((ct_X7_isHolder aa_27) (((h.2 c1).2.2 c2).2.2 c3).1) (aw_if_eq 92 dX7_mergeGroups_67 (by decide) (fun c4 => (aw_mask [true, true, true, true, true, true] rfl ((((h.2 c1).2.2 c2).2.2 c3).2.1 c4))) (fun c4 => (aw_aload_n dX7_mergeGroups_70 rfl (aw_getr 31 fkX7_22 fa_26_12 dX7_mergeGroups_71 (aw_bipush 10 dX7_mergeGroups_74 (by decide) (aw_iload dX7_mergeGroups_76 rfl (aw_imul dX7_mergeGroups_78 (aw_iload dX7_mergeGroups_79 rfl (aw_iadd dX7_mergeGroups_81 (aw_iald aa_31 dX7_mergeGroups_82 ((((h.2 c1).2.2 c2).2.2 c3).2.2 c4).1 (aw_bipush (-9) dX7_mergeGroups_83 (by decide) (aw_icmp_ne 92 dX7_mergeGroups_85 (by decide) (fun c5 => (aw_mask [true, true, true, true, true, true] rfl (((((h.2 c1).2.2 c2).2.2 c3).2.2 c4).2.1 c5))) (fun c5 => (aw_iconst 1 dX7_mergeGroups_88 (by decide) (aw_goto 93 dX7_mergeGroups_89 (by decide) (aw_mask [true, true, true, true, true, true] rfl (((((h.2 c1).2.2 c2).2.2 c3).2.2 c4).2.2 c5)))))))))))))))))))))))))))))))))))))))))))))))
theorem sg_X7_mergeGroups_92 {Γ : Gam} {P : Int32 → Mem → Prop}  (a1 a2 a3 a4 a5 : Int32) {g : Mem} (h : AW Γ 3 iX7_mergeGroups P 93 [some (.inr 26), some (.inl a1), some (.inl a2), some (.inl a3), some (.inl a4), some (.inl a5)] [.inl 0] g) : AW Γ 3 iX7_mergeGroups P 92 [some (.inr 26), some (.inl a1), some (.inl a2), some (.inl a3), some (.inl a4), some (.inl a5)] [] g :=
  (aw_iconst 0 dX7_mergeGroups_92 (by decide) (aw_mask [true, true, true, true, true, true] rfl h))
theorem sg_X7_mergeGroups_93 {Γ : Gam} {P : Int32 → Mem → Prop}  (a1 a2 a3 a4 a5 v0 : Int32) {g : Mem} (h : ((v0 = 0 → (vp_in ((10 * a4) + a5) 100 ∧ AW Γ 3 iX7_mergeGroups P 129 [some (.inr 26), some (.inl a1), some (.inl a2), some (.inl a3), some (.inl a4), some (.inl a5), some (.inl v0)] [.inl (g 31 ((10 * a4) + a5).toNatClampNeg), .inl ((10 * a4) + a5), .inr 31] g)) ∧ (¬ v0 = 0 → AW Γ 3 iX7_mergeGroups P 129 [some (.inr 26), some (.inl a1), some (.inl a2), some (.inl a3), some (.inl a4), some (.inl a5), some (.inl v0)] [.inl 0, .inl ((10 * a4) + a5), .inr 31] g))) : AW Γ 3 iX7_mergeGroups P 93 [some (.inr 26), some (.inl a1), some (.inl a2), some (.inl a3), some (.inl a4), some (.inl a5)] [.inl v0] g :=
  (aw_istore [some (.inr 26), some (.inl a1), some (.inl a2), some (.inl a3), some (.inl a4), some (.inl a5), some (.inl v0)] dX7_mergeGroups_93 (by decide) rfl (aw_aload_n dX7_mergeGroups_95 rfl (aw_getr 31 fkX7_22 fa_26_12 dX7_mergeGroups_96 (aw_bipush 10 dX7_mergeGroups_99 (by decide) (aw_iload dX7_mergeGroups_101 rfl (aw_imul dX7_mergeGroups_103 (aw_iload dX7_mergeGroups_104 rfl (aw_iadd dX7_mergeGroups_106 (aw_iload dX7_mergeGroups_107 rfl (aw_if_eq 116 dX7_mergeGroups_109 (by decide) (fun c1 => (aw_aload_n dX7_mergeGroups_116 rfl (aw_getr 31 fkX7_22 fa_26_12 dX7_mergeGroups_117 (aw_bipush 10 dX7_mergeGroups_120 (by decide) (aw_iload dX7_mergeGroups_122 rfl (aw_imul dX7_mergeGroups_124 (aw_iload dX7_mergeGroups_125 rfl (aw_iadd dX7_mergeGroups_127 (aw_iald aa_31 dX7_mergeGroups_128 (h.1 c1).1 (aw_mask [true, true, true, true, true, true, true] rfl (h.1 c1).2)))))))))) (fun c1 => (aw_iconst 0 dX7_mergeGroups_112 (by decide) (aw_goto 129 dX7_mergeGroups_113 (by decide) (aw_mask [true, true, true, true, true, true, true] rfl (h.2 c1)))))))))))))))
theorem sg_X7_mergeGroups_129 {Γ : Gam} {P : Int32 → Mem → Prop}  (a1 a2 a3 a4 a5 a6 v0 v1 : Int32) {g : Mem} (h : (vp_in v1 100 ∧ ((¬ a3 = 0 → AW Γ 3 iX7_mergeGroups P 19 [some (.inr 26), some (.inl a1), some (.inl a2), some (.inl 1), some (.inl a4), some (.inl (a5 + 1))] [] (up g 31 v1.toNatClampNeg v0)) ∧ (a3 = 0 → ((a6 = 0 → AW Γ 3 iX7_mergeGroups P 19 [some (.inr 26), some (.inl a1), some (.inl a2), some (.inl 0), some (.inl a4), some (.inl (a5 + 1))] [] (up g 31 v1.toNatClampNeg v0)) ∧ (¬ a6 = 0 → AW Γ 3 iX7_mergeGroups P 19 [some (.inr 26), some (.inl a1), some (.inl a2), some (.inl 1), some (.inl a4), some (.inl (a5 + 1))] [] (up g 31 v1.toNatClampNeg v0))))))) : AW Γ 3 iX7_mergeGroups P 129 [some (.inr 26), some (.inl a1), some (.inl a2), some (.inl a3), some (.inl a4), some (.inl a5), some (.inl a6)] [.inl v0, .inl v1, .inr 31] g :=
  (aw_iast aa_31 dX7_mergeGroups_129 h.1 (aw_iload_n dX7_mergeGroups_130 rfl (aw_if_ne 139 dX7_mergeGroups_131 (by decide) (fun c1 => (aw_iconst 1 dX7_mergeGroups_139 (by decide) (aw_goto 144 dX7_mergeGroups_140 (by decide) (aw_istore_n [some (.inr 26), some (.inl a1), some (.inl a2), some (.inl 1), some (.inl a4), some (.inl a5), some (.inl a6)] dX7_mergeGroups_144 (by decide) rfl (aw_iinc (a5 + 1) [some (.inr 26), some (.inl a1), some (.inl a2), some (.inl 1), some (.inl a4), some (.inl (a5 + 1)), some (.inl a6)] dX7_mergeGroups_145 rfl (by rfl) (by decide) rfl (aw_goto 19 dX7_mergeGroups_148 (by decide) (aw_mask [true, true, true, true, true, true] rfl (h.2.1 c1)))))))) (fun c1 => (aw_iload dX7_mergeGroups_134 rfl (aw_if_eq 143 dX7_mergeGroups_136 (by decide) (fun c2 => (aw_iconst 0 dX7_mergeGroups_143 (by decide) (aw_istore_n [some (.inr 26), some (.inl a1), some (.inl a2), some (.inl 0), some (.inl a4), some (.inl a5), some (.inl a6)] dX7_mergeGroups_144 (by decide) rfl (aw_iinc (a5 + 1) [some (.inr 26), some (.inl a1), some (.inl a2), some (.inl 0), some (.inl a4), some (.inl (a5 + 1)), some (.inl a6)] dX7_mergeGroups_145 rfl (by rfl) (by decide) rfl (aw_goto 19 dX7_mergeGroups_148 (by decide) (aw_mask [true, true, true, true, true, true] rfl ((h.2.2 c1).1 c2))))))) (fun c2 => (aw_iconst 1 dX7_mergeGroups_139 (by decide) (aw_goto 144 dX7_mergeGroups_140 (by decide) (aw_istore_n [some (.inr 26), some (.inl a1), some (.inl a2), some (.inl 1), some (.inl a4), some (.inl a5), some (.inl a6)] dX7_mergeGroups_144 (by decide) rfl (aw_iinc (a5 + 1) [some (.inr 26), some (.inl a1), some (.inl a2), some (.inl 1), some (.inl a4), some (.inl (a5 + 1)), some (.inl a6)] dX7_mergeGroups_145 rfl (by rfl) (by decide) rfl (aw_goto 19 dX7_mergeGroups_148 (by decide) (aw_mask [true, true, true, true, true, true] rfl ((h.2.2 c1).2 c2))))))))))))))
theorem lp_X7_mg19 {Γ : Gam} {P : Int32 → Mem → Prop} {s : St} {g : Mem} {o w : Nat} (h : MW 27 s g) (ho : o < 2 ^ 31) (hw9 : w < 2 ^ 31) {a : Nat} (ha : a < s 0) (hP : ∀ g' f, Mg s g o w (a + 1) 0 f g' → AW Γ 3 iX7_mergeGroups P 5 [some (.inr 26), some (.inl (nI o)), some (.inl (nI w)), some (.inl (bi f)), some (.inl (nI (a + 1)))] [] g') : ∀ n b g' f, b + n = s 0 → Mg s g o w a b f g' → AW Γ 3 iX7_mergeGroups P 19 [some (.inr 26), some (.inl (nI o)), some (.inl (nI w)), some (.inl (bi f)), some (.inl (nI a)), some (.inl (nI b))] [] g' := by
  intro n
  have hn := h.2.n
  induction n with
  | zero =>
    intro b g' f hb hJ
    refine sg_X7_mergeGroups_19 s _ _ _ _ _ ?_
    rw [hJ.1.1 27 (by decide), h.at (show 0 < 81 by decide), nI_1]
    refine ⟨fun _ => hP g' f ⟨hJ.1, hJ.2.1, hJ.2.2.1, fun x y hx hy hp => hJ.2.2.2.1 x y hx hy (by omega), hJ.2.2.2.2⟩, fun c => absurd (nI_le (by omega) (by omega)) c⟩
  | succ n ih =>
    intro b g' f hb hJ
    have hm : MW 27 s g' := ⟨fun j hj => by rw [hJ.1.1 27 (by decide)]; exact h.1 j hj, h.2⟩
    have ga := (h.2.o ha).2.1
    have gb := (h.2.o (i := b) (by omega)).2.1
    -- the end of the pass: is the pair new?
    have fin : ∀ (v : Bool) (g2 : Mem), (v = false → Mg s g o w a (b + 1) f g') → (v = true → g' 31 (10 * a + b) = -9 ∧ Mg s g o w a (b + 1) true (up g' 31 (10 * a + b) 0)) → AW Γ 3 iX7_mergeGroups P 93 [some (.inr 26), some (.inl (nI o)), some (.inl (nI w)), some (.inl (bi f)), some (.inl (nI a)), some (.inl (nI b))] [.inl (bi v)] g' := by
      intro v g2 hv0 hv1
      refine sg_X7_mergeGroups_93 _ _ _ _ _ _ ?_
      rw [pair_nI', ix_nI (n := 10 * a + b) (by omega)]
      refine ⟨fun c => ⟨vp_nI (by omega) (by decide), ?_⟩, fun c => ?_⟩
      · rw [bi_eq0] at c
        subst c
        refine sg_X7_mergeGroups_129 _ _ _ _ _ _ _ _ ?_
        rw [ix_nI (n := 10 * a + b) (by omega), nI_1]
        have eu : up g' 31 (10 * a + b) (g' 31 (10 * a + b)) = g' := by
          funext k j
          by_cases hk : k = 31
          · subst hk
            by_cases hj : j = 10 * a + b
            · subst hj; rw [up_at]
            · rw [up_nx hj]
          · rw [up_ne hk]
        rw [eu]
        have nx := ih (b + 1) g' f (by omega) (hv0 rfl)
        refine ⟨vp_nI (by omega) (by decide), fun c => ?_, fun c => ⟨fun _ => ?_, fun c2 => absurd rfl c2⟩⟩
        · rw [bi_ne0] at c; subst c; exact nx
        · rw [bi_eq0] at c; subst c; exact nx
      · rw [bi_ne0] at c
        subst c
        obtain ⟨d1, d2⟩ := hv1 rfl
        refine sg_X7_mergeGroups_129 _ _ _ _ _ _ _ _ ?_
        rw [ix_nI (n := 10 * a + b) (by omega), nI_1]
        have nx := ih (b + 1) _ true (by omega) d2
        exact ⟨vp_nI (by omega) (by decide), fun _ => nx, fun _ => ⟨fun c2 => absurd c2 (by decide), fun _ => nx⟩⟩
    have skip : (s (31 + a) = o → s (31 + b) = w → hz s a = true → Fr s g' a b = true) → AW Γ 3 iX7_mergeGroups P 92 [some (.inr 26), some (.inl (nI o)), some (.inl (nI w)), some (.inl (bi f)), some (.inl (nI a)), some (.inl (nI b))] [] g' := fun hc => sg_X7_mergeGroups_92 _ _ _ _ _ (fin false g' (fun _ => Mg_skip hJ hc) (fun e => Bool.noConfusion e))
    refine sg_X7_mergeGroups_19 s _ _ _ _ _ ?_
    rw [hm.at (show 0 < 81 by decide), n31, n31, pair_nI', ix_nI (n := 31 + a) (by omega), ix_nI (n := 31 + b) (by omega), ix_nI (n := 10 * a + b) (by omega), hm.at (show 31 + a < 81 by omega), hm.at (show 31 + b < 81 by omega), nI_eq (by omega) ho, nI_eq (by omega) hw9, hz_nI h.2 (by omega)]
    refine ⟨fun c => absurd c (nI_ge (by omega) (by omega)), fun _ => ⟨vp_nI (by omega) (by decide), fun c1 => skip (fun e => absurd e c1), fun c1 => ⟨vp_nI (by omega) (by decide), fun c2 => skip (fun _ e => absurd e c2), fun c2 => ⟨hm, fun c3 => skip (fun _ _ e => by rw [bi_eq0] at c3; rw [e] at c3; cases c3), fun c3 => ⟨vp_nI (by omega) (by decide), fun c4 => skip (fun _ _ _ => Fr_t.mpr ⟨ha, by omega, c4⟩), fun c4 => fin true g' (fun e => Bool.noConfusion e) (fun _ => ⟨c4, Mg_add h.2 hJ ha (by omega) c4 c1 c2 (bi_ne0.mp c3)⟩)⟩⟩⟩⟩⟩
theorem lp_X7_mg5 {Γ : Gam} {P : Int32 → Mem → Prop} {s : St} {g : Mem} {o w : Nat} (h : MW 27 s g) (ho : o < 2 ^ 31) (hw9 : w < 2 ^ 31) (hP : ∀ g' f, Mg s g o w (s 0) 0 f g' → P (bi f) g') : ∀ n a g' f, a + n = s 0 → Mg s g o w a 0 f g' → AW Γ 3 iX7_mergeGroups P 5 [some (.inr 26), some (.inl (nI o)), some (.inl (nI w)), some (.inl (bi f)), some (.inl (nI a))] [] g' := by
  intro n
  have hn := h.2.n
  induction n with
  | zero =>
    intro a g' f ha hJ
    have e : a = s 0 := by omega
    subst e
    refine sg_X7_mergeGroups_5 _ _ _ _ ?_
    rw [hJ.1.1 27 (by decide), h.at (show 0 < 81 by decide)]
    exact ⟨fun _ => ⟨bz_bi f, hP g' f hJ⟩, fun c => absurd (nI_le (Nat.le_refl _) (by omega)) c⟩
  | succ n ih =>
    intro a g' f ha hJ
    refine sg_X7_mergeGroups_5 _ _ _ _ ?_
    rw [hJ.1.1 27 (by decide), h.at (show 0 < 81 by decide)]
    exact ⟨fun c => absurd c (nI_ge (by omega) (by omega)), fun _ => lp_X7_mg19 h ho hw9 (by omega) (fun g2 f2 q => ih (a + 1) g2 f2 (by omega) q) (s 0) 0 g' f (by omega) hJ⟩
theorem ct_X7_mergeGroups {Γ : Gam} {s : St} {g : Mem} {o w : Nat} (h : MW 27 s g) (ho : o < 2 ^ 31) (hw9 : w < 2 ^ 31) : Runs Γ 3 yX7_mergeGroups iX7_mergeGroups [.inr 26, .inl (nI o), .inl (nI w)] g (fun v g' => ∃ f, v = bi f ∧ Mg s g o w (s 0) 0 f g') :=
  Runs.intro (by decide) rfl (Nat.le_of_ble_eq_true rfl) (sg_X7_mergeGroups_0 _ _ (lp_X7_mg5 h ho hw9 (fun g' f q => ⟨f, rfl, q⟩) (s 0) 0 g false (by omega) ⟨Gw.rf, fun _ _ _ e => e, fun e => Bool.noConfusion e, fun x y _ _ hp => by omega, fun _ _ e => Or.inl e⟩))
