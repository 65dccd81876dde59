/-! The reference's reader: take, number, an object, a reference. -/
def frK (g g' : Mem) : Prop := (∀ k, k ≠ 26 → g' k = g k) ∧ ∀ j, (j < 7 ∨ 11 < j) → g' 26 j = g 26 j
theorem frK.rf (g : Mem) : frK g g := ⟨fun _ _ => rfl, fun _ _ => rfl⟩
theorem frK.trans {g1 g2 g3 : Mem} (h : frK g1 g2) (h' : frK g2 g3) : frK g1 g3 := ⟨fun k a => by rw [h'.1 k a, h.1 k a], fun j a => by rw [h'.2 j a, h.2 j a]⟩
theorem frK.ofT {g g' : Mem} (h : frT g g') : frK g g' := ⟨h.1, fun j hj => h.2 j (by omega) (by omega) (by omega) (by omega)⟩
theorem frK.e (g : Mem) (v : Int32) : frK g (up g 26 11 v) := ⟨fun k hk => up_ne hk, fun j hj => up_nx (by omega)⟩
theorem TM.frK {L : Nat} {c : Nat → Nat} {g g' : Mem} (h : TM L c g) (f : frK g g') : TM L c g' := ⟨by rw [f.2 6 (by omega)]; exact h.1, fun j hj => by rw [f.1 30 (by decide)]; exact h.2 j hj⟩
theorem MA.frK {s : St} {g g' : Mem} (h : MA 28 s g) (f : frK g g') : MA 28 s g' := fun j hj => by rw [f.1 28 (by decide)]; exact h j hj
theorem fine_T {g : Mem} (h : g 26 11 = -9) : bi (decide (g 26 11 = -9)) = 1 := by rw [decide_eq_true h]; rfl
theorem fine_F {g : Mem} (h : ¬ g 26 11 = -9) : bi (decide (g 26 11 = -9)) = 0 := by rw [decide_eq_false h]; rfl
theorem sg_X7_take_0 {Γ : Gam} {P : Int32 → Mem → Prop}  (a1 : Int32) {g : Mem} (h : (Runs Γ 1 yX7_isFine iX7_isFine [.inr 26] g (fun r1 g1 => ((r1 = 0 → P (g 26 10) g1) ∧ (¬ r1 = 0 → ((a1 = 0 → P (g 26 10) (up g1 26 11 (g1 26 8))) ∧ (¬ a1 = 0 → (Runs Γ 3 yX7_advance iX7_advance [.inr 26] g1 (fun r2 g2 => P (g 26 10) g2))))))))) : AW Γ 4 iX7_take P 0 [some (.inr 26), some (.inl a1)] [] g :=
  (aw_aload_n dX7_take_0 rfl (aw_geti fkX7_64 fa_26_10 dX7_take_1 (aw_istore_n [some (.inr 26), some (.inl a1), some (.inl (g 26 10))] dX7_take_4 (by decide) rfl (aw_aload_n dX7_take_5 rfl (aw_callVi lkX7_70 ckX7_isFine ca_26 rfl (d := 1) (by decide) [] rfl rfl (Nat.le_of_ble_eq_true rfl) dX7_take_6 rfl (Runs.mono h (fun r1 g1 h1_ => (aw_if_eq 31 dX7_take_9 (by decide) (fun c1 => (aw_iload_n dX7_take_31 rfl (aw_iret rfl (vp_nar_int _) dX7_take_32 (h1_.1 c1)))) (fun c1 => (aw_iload_n dX7_take_12 rfl (aw_if_eq 23 dX7_take_13 (by decide) (fun c2 => (aw_aload_n dX7_take_23 rfl (aw_aload_n dX7_take_24 rfl (aw_geti fkX7_39 fa_26_8 dX7_take_25 (aw_putf fpX7_67 fa_26_11 (vp_nar_int _) rfl dX7_take_28 (aw_iload_n dX7_take_31 rfl (aw_iret rfl (vp_nar_int _) dX7_take_32 ((h1_.2 c1).1 c2)))))))) (fun c2 => (aw_aload_n dX7_take_16 rfl (aw_callVv lkX7_74 ckX7_advance ca_26 rfl (d := 3) (by decide) [] rfl rfl (Nat.le_of_ble_eq_true rfl) dX7_take_17 rfl (Runs.mono ((h1_.2 c1).2 c2) (fun r2 g2 h2_ => (aw_goto 31 dX7_take_20 (by decide) (aw_iload_n dX7_take_31 rfl (aw_iret rfl (vp_nar_int _) dX7_take_32 h2_)))))))))))))))))))
theorem take_err {Γ : Gam} {g : Mem} {v : Int32} (h : ¬ g 26 11 = -9) {P : Int32 → Mem → Prop} (hP : ∀ r, P r g) : Runs Γ 4 yX7_take iX7_take [.inr 26, .inl v] g P := by
  refine Runs.intro (by decide) rfl (Nat.le_of_ble_eq_true rfl) (sg_X7_take_0 _ (Runs.fn ct_X7_isFine ?_))
  rw [fine_F h]
  exact ⟨fun _ => hP _, fun z => absurd rfl z⟩
theorem take_no {Γ : Gam} {g : Mem} (h : g 26 11 = -9) {P : Int32 → Mem → Prop} (hP : ∀ r, P r (up g 26 11 (g 26 8))) : Runs Γ 4 yX7_take iX7_take [.inr 26, .inl 0] g P := by
  refine Runs.intro (by decide) rfl (Nat.le_of_ble_eq_true rfl) (sg_X7_take_0 _ (Runs.fn ct_X7_isFine ?_))
  rw [fine_T h]
  exact ⟨fun z => absurd z (by decide), fun _ => ⟨fun _ => hP _, fun z => absurd rfl z⟩⟩
theorem take_yes {Γ : Gam} {L : Nat} {c : Nat → Nat} {g : Mem} {i : Nat} (hL : L ≤ 160) (hc : ∀ j, j < L → c j ≤ 255) (hi : i ≤ L) (hM : TM L c g) (hT : TkM L c i g) (h : g 26 11 = -9) {P : Int32 → Mem → Prop} (hP : ∀ g', frK g g' → g' 26 11 = -9 → TkM L c (tB L c i) g' → P (g 26 10) g') : Runs Γ 4 yX7_take iX7_take [.inr 26, .inl 1] g P := by
  refine Runs.intro (by decide) rfl (Nat.le_of_ble_eq_true rfl) (sg_X7_take_0 _ (Runs.fn ct_X7_isFine ?_))
  rw [fine_T h]
  refine ⟨fun z => absurd z (by decide), fun _ => ⟨fun z => absurd z (by decide), fun _ => ?_⟩⟩
  refine (ct_X7_advance hL hc (tB_le hi).2.1 hM hT.2.1).mono (fun r g' q => hP g' (frK.ofT q.2) (by rw [q.2.2 11 (by decide) (by decide) (by decide) (by decide)]; exact h) q.1)
theorem sg_X7_number_0 {Γ : Gam} {P : Int32 → Mem → Prop}  (a1 : Int32) {g : Mem} (h : ((¬ (g 26 9) = 2 → (Runs Γ 4 yX7_take iX7_take [.inr 26, .inl 0] g (fun r1 g1 => P r1 g1))) ∧ ((g 26 9) = 2 → ((a1 < (g 26 10) → (Runs Γ 4 yX7_take iX7_take [.inr 26, .inl 0] g (fun r2 g2 => P r2 g2))) ∧ (¬ (a1 < (g 26 10)) → (Runs Γ 4 yX7_take iX7_take [.inr 26, .inl 1] g (fun r3 g3 => P r3 g3))))))) : AW Γ 5 iX7_number P 0 [some (.inr 26), some (.inl a1)] [] g :=
  (aw_aload_n dX7_number_0 rfl (aw_aload_n dX7_number_1 rfl (aw_geti fkX7_53 fa_26_9 dX7_number_2 (aw_iconst 2 dX7_number_5 (by decide) (aw_icmp_ne 21 dX7_number_6 (by decide) (fun c1 => (aw_iconst 0 dX7_number_21 (by decide) (aw_callVi lkX7_77 ckX7_take ca_26 rfl (d := 4) (by decide) [.inl 0] rfl rfl (Nat.le_of_ble_eq_true rfl) dX7_number_22 rfl (Runs.mono (h.1 c1) (fun r1 g1 h1_ => (aw_iret rfl (vp_nar_int _) dX7_number_25 h1_)))))) (fun c1 => (aw_aload_n dX7_number_9 rfl (aw_geti fkX7_64 fa_26_10 dX7_number_10 (aw_iload_n dX7_number_13 rfl (aw_icmp_gt 21 dX7_number_14 (by decide) (fun c2 => (aw_iconst 0 dX7_number_21 (by decide) (aw_callVi lkX7_77 ckX7_take ca_26 rfl (d := 4) (by decide) [.inl 0] rfl rfl (Nat.le_of_ble_eq_true rfl) dX7_number_22 rfl (Runs.mono ((h.2 c1).1 c2) (fun r2 g2 h2_ => (aw_iret rfl (vp_nar_int _) dX7_number_25 h2_)))))) (fun c2 => (aw_iconst 1 dX7_number_17 (by decide) (aw_goto 22 dX7_number_18 (by decide) (aw_callVi lkX7_77 ckX7_take ca_26 rfl (d := 4) (by decide) [.inl 1] rfl rfl (Nat.le_of_ble_eq_true rfl) dX7_number_22 rfl (Runs.mono ((h.2 c1).2 c2) (fun r3 g3 h3_ => (aw_iret rfl (vp_nar_int _) dX7_number_25 h3_)))))))))))))))))
theorem number_err {Γ : Gam} {g : Mem} {v : Int32} (h : ¬ g 26 11 = -9) {P : Int32 → Mem → Prop} (hP : ∀ r, P r g) : Runs Γ 5 yX7_number iX7_number [.inr 26, .inl v] g P :=
  Runs.intro (by decide) rfl (Nat.le_of_ble_eq_true rfl) (sg_X7_number_0 _ ⟨fun _ => take_err h hP, fun _ => ⟨fun _ => take_err h hP, fun _ => take_err h hP⟩⟩)
theorem mT_le {L : Nat} {c : Nat → Nat} {i : Nat} : mT L c i ≤ 4 := by
  have := tT_le (L := L) (c := c) (i := i)
  unfold mT
  split <;> omega
theorem mT_n {L : Nat} {c : Nat → Nat} {i k : Nat} (hk : k ≠ 2) (hk4 : k < 4) : mT L c i = k ↔ tT L c i = k := by
  unfold mT
  split
  · rename_i d; omega
  · exact Iff.rfl
theorem number_fine {Γ : Gam} {L : Nat} {c : Nat → Nat} {g : Mem} {i : Nat} {w : Int32} (hL : L ≤ 160) (hc : ∀ j, j < L → c j ≤ 255) (hi : i ≤ L) (hM : TM L c g) (hT : TkM L c i g) (h : g 26 11 = -9) {P : Int32 → Mem → Prop} (hy : mT L c i = 2 → ¬ w < nI (nv c (tF L c i) (tB L c i)) → ∀ g', frK g g' → g' 26 11 = -9 → TkM L c (tB L c i) g' → P (nI (nv c (tF L c i) (tB L c i))) g') (hn : ¬ (mT L c i = 2 ∧ ¬ w < nI (nv c (tF L c i) (tB L c i))) → ∀ r g', frK g g' → g' 26 11 = nI (tF L c i) → P r g') : Runs Γ 5 yX7_number iX7_number [.inr 26, .inl w] g P := by
  have hm := mT_le (L := L) (c := c) (i := i)
  have er : ¬ (mT L c i = 2 ∧ ¬ w < nI (nv c (tF L c i) (tB L c i))) → Runs Γ 4 yX7_take iX7_take [.inr 26, .inl 0] g P := fun q => take_no h (fun r => hn q r _ (frK.e g _) (by rw [up_at]; exact hT.1))
  have e9 : g 26 9 = 2 ↔ mT L c i = 2 := by rw [hT.2.2.1]; exact nI_eq (b := 2) (by omega) (by decide)
  refine Runs.intro (by decide) rfl (Nat.le_of_ble_eq_true rfl) (sg_X7_number_0 _ ?_)
  rw [e9]
  refine ⟨fun d => er (fun q => d q.1), fun d => ?_⟩
  rw [hT.2.2.2.2 d]
  refine ⟨fun d2 => er (fun q => q.2 d2), fun d2 => take_yes hL hc hi hM hT h (fun g' a b e => ?_)⟩
  rw [hT.2.2.2.2 d]
  exact hy d d2 g' a b e
/-- what reading the rest of a statement leaves -/
def RO (L : Nat) (c : Nat → Nat) (s : St) (K : Nat) (x : Sum Nat ((Nat → Nat) × Nat)) (g' : Mem) : Prop := match x with
  | .inl e => g' 26 11 = nI e ∧ e ≤ 160
  | .inr q => g' 26 11 = -9 ∧ TkM L c q.2 g' ∧ q.2 ≤ L ∧ MA 28 (prf s K q.1) g'
def frP (g g' : Mem) : Prop := (∀ k, k ≠ 26 → k ≠ 28 → g' k = g k) ∧ ∀ j, (j < 7 ∨ 11 < j) → g' 26 j = g 26 j
theorem frP.k {g0 g g' : Mem} (h : frP g0 g) (h' : frK g g') : frP g0 g' := ⟨fun k a b => by rw [h'.1 k a, h.1 k a b], fun j a => by rw [h'.2 j a, h.2 j a]⟩
theorem frP.u {g0 g : Mem} (h : frP g0 g) (j : Nat) (v : Int32) : frP g0 (up g 28 j v) := ⟨fun k a b => by rw [up_ne b, h.1 k a b], fun i a => by rw [up_ne (by decide), h.2 i a]⟩
theorem frP.trans {g1 g2 g3 : Mem} (h : frP g1 g2) (h' : frP g2 g3) : frP g1 g3 := ⟨fun k a b => by rw [h'.1 k a b, h.1 k a b], fun j a => by rw [h'.2 j a, h.2 j a]⟩
theorem frP.rf (g : Mem) : frP g g := ⟨fun _ _ _ => rfl, fun _ _ => rfl⟩
theorem TM.frP {L : Nat} {c : Nat → Nat} {g g' : Mem} (h : TM L c g) (f : frP g g') : TM L c g' := ⟨by rw [f.2 6 (by omega)]; exact h.1, fun j hj => by rw [f.1 30 (by decide) (by decide)]; exact h.2 j hj⟩
theorem TkM.u {L : Nat} {c : Nat → Nat} {i : Nat} {g : Mem} (h : TkM L c i g) (j : Nat) (v : Int32) : TkM L c i (up g 28 j v) := by
  unfold TkM at h ⊢
  rw [up_ne (by decide)]
  exact h
theorem MA.u {s : St} {g : Mem} (h : MA 28 s g) {p v : Nat} {x : Int32} (hx : x = nI v) : MA 28 (sset s p v) (up g 28 p x) := by
  intro j hj
  by_cases e : j = p
  · subst e; rw [up_at, sset_at]; exact hx
  · rw [up_nx e, sset_ne e]; exact h j hj
theorem err_ne {e : Nat} (h : e ≤ 160) {g : Mem} (hg : g 26 11 = nI e) : ¬ g 26 11 = -9 := by rw [hg]; exact nI_ne_neg (by omega) (by decide)
section RD
variable {Γ : Gam} {P : Int32 → Mem → Prop} {L : Nat} {c : Nat → Nat} {s : St} {K : Nat} {g0 : Mem}
theorem sg_X7_readObject_0 {Γ : Gam} {P : Int32 → Mem → Prop}  (a1 : Int32) {g : Mem} (h : ((¬ a1 = 3 → ((¬ a1 = 0 → AW Γ 6 iX7_readObject P 89 [some (.inr 26), some (.inl a1), some (.inl (g 28 0)), none, some (.inl 0)] [.inl 3, .inr 26] g) ∧ (a1 = 0 → AW Γ 6 iX7_readObject P 89 [some (.inr 26), some (.inl a1), some (.inl (g 28 0)), none, some (.inl 0)] [.inl 15, .inr 26] g))) ∧ (a1 = 3 → ((¬ (g 26 9) = 2 → AW Γ 6 iX7_readObject P 70 [some (.inr 26), some (.inl a1), some (.inl (g 28 0)), none, some (.inl 0)] [.inr 26] g) ∧ ((g 26 9) = 2 → (((g 28 0) ≤ (g 26 10) → AW Γ 6 iX7_readObject P 70 [some (.inr 26), some (.inl a1), some (.inl (g 28 0)), none, some (.inl 0)] [.inr 26] g) ∧ (¬ ((g 28 0) ≤ (g 26 10)) → ((¬ (g 26 9) = 2 → AW Γ 6 iX7_readObject P 60 [some (.inr 26), some (.inl a1), some (.inl (g 28 0)), none, some (.inl 0)] [.inl 1, .inr 28, .inr 26] g) ∧ ((g 26 9) = 2 → (((g 28 0) ≤ (g 26 10) → AW Γ 6 iX7_readObject P 60 [some (.inr 26), some (.inl a1), some (.inl (g 28 0)), none, some (.inl 0)] [.inl 1, .inr 28, .inr 26] g) ∧ (¬ ((g 28 0) ≤ (g 26 10)) → AW Γ 6 iX7_readObject P 61 [some (.inr 26), some (.inl a1), some (.inl (g 28 0)), none, some (.inl 0)] [.inl (g 26 10), .inl 1, .inr 28, .inr 26] g))))))))))) : AW Γ 6 iX7_readObject P 0 [some (.inr 26), some (.inl a1)] [] g :=
  (aw_aload_n dX7_readObject_0 rfl (aw_getr 28 fkX7_13 fa_26_2 dX7_readObject_1 (aw_iconst 0 dX7_readObject_4 (by decide) (aw_iald aa_28 dX7_readObject_5 (vp_lit 0 (by decide) (by decide)) (aw_istore_n [some (.inr 26), some (.inl a1), some (.inl (g 28 0))] dX7_readObject_6 (by decide) rfl (aw_iconst 0 dX7_readObject_7 (by decide) (aw_istore [some (.inr 26), some (.inl a1), some (.inl (g 28 0)), none, some (.inl 0)] dX7_readObject_8 (by decide) rfl (aw_iload_n dX7_readObject_10 rfl (aw_iconst 3 dX7_readObject_11 (by decide) (aw_icmp_ne 78 dX7_readObject_12 (by decide) (fun c1 => (aw_aload_n dX7_readObject_78 rfl (aw_iload_n dX7_readObject_79 rfl (aw_if_ne 88 dX7_readObject_80 (by decide) (fun c2 => (aw_iconst 3 dX7_readObject_88 (by decide) (aw_mask [true, true, true, false, true] rfl ((h.1 c1).1 c2)))) (fun c2 => (aw_bipush 15 dX7_readObject_83 (by decide) (aw_goto 89 dX7_readObject_85 (by decide) (aw_mask [true, true, true, false, true] rfl ((h.1 c1).2 c2))))))))) (fun c1 => (aw_aload_n dX7_readObject_15 rfl (aw_aload_n dX7_readObject_16 rfl (aw_geti fkX7_53 fa_26_9 dX7_readObject_17 (aw_iconst 2 dX7_readObject_20 (by decide) (aw_icmp_ne 70 dX7_readObject_21 (by decide) (fun c3 => (aw_mask [true, true, true, false, true] rfl ((h.2 c1).1 c3))) (fun c3 => (aw_aload_n dX7_readObject_24 rfl (aw_geti fkX7_64 fa_26_10 dX7_readObject_25 (aw_iload_n dX7_readObject_28 rfl (aw_icmp_ge 70 dX7_readObject_29 (by decide) (fun c4 => (aw_mask [true, true, true, false, true] rfl (((h.2 c1).2 c3).1 c4))) (fun c4 => (aw_aload_n dX7_readObject_32 rfl (aw_getr 28 fkX7_13 fa_26_2 dX7_readObject_33 (aw_iconst 1 dX7_readObject_36 (by decide) (aw_aload_n dX7_readObject_37 rfl (aw_geti fkX7_53 fa_26_9 dX7_readObject_38 (aw_iconst 2 dX7_readObject_41 (by decide) (aw_icmp_ne 60 dX7_readObject_42 (by decide) (fun c5 => (aw_mask [true, true, true, false, true] rfl ((((h.2 c1).2 c3).2 c4).1 c5))) (fun c5 => (aw_aload_n dX7_readObject_45 rfl (aw_geti fkX7_64 fa_26_10 dX7_readObject_46 (aw_iload_n dX7_readObject_49 rfl (aw_icmp_ge 60 dX7_readObject_50 (by decide) (fun c6 => (aw_mask [true, true, true, false, true] rfl (((((h.2 c1).2 c3).2 c4).2 c5).1 c6))) (fun c6 => (aw_aload_n dX7_readObject_53 rfl (aw_geti fkX7_64 fa_26_10 dX7_readObject_54 (aw_goto 61 dX7_readObject_57 (by decide) (aw_mask [true, true, true, false, true] rfl (((((h.2 c1).2 c3).2 c4).2 c5).2 c6))))))))))))))))))))))))))))))))))))))))
theorem sg_X7_readObject_89 {Γ : Gam} {P : Int32 → Mem → Prop}  (a1 a2 a4 v0 : Int32) {g : Mem} (h : (Runs Γ 5 yX7_number iX7_number [.inr 26, .inl v0] g (fun r1 g1 => AW Γ 6 iX7_readObject P 93 [some (.inr 26), some (.inl a1), some (.inl a2), some (.inl r1), some (.inl a4)] [] g1))) : AW Γ 6 iX7_readObject P 89 [some (.inr 26), some (.inl a1), some (.inl a2), none, some (.inl a4)] [.inl v0, .inr 26] g :=
  (aw_callVi lkX7_81 ckX7_number ca_26 rfl (d := 5) (by decide) [.inl v0] rfl rfl (Nat.le_of_ble_eq_true rfl) dX7_readObject_89 rfl (Runs.mono h (fun r1 g1 h1_ => (aw_istore_n [some (.inr 26), some (.inl a1), some (.inl a2), some (.inl r1), some (.inl a4)] dX7_readObject_92 (by decide) rfl (aw_mask [true, true, true, true, true] rfl h1_)))))
theorem sg_X7_readObject_70 {Γ : Gam} {P : Int32 → Mem → Prop}  (a1 a2 a4 : Int32) {g : Mem} (h : AW Γ 6 iX7_readObject P 71 [some (.inr 26), some (.inl a1), some (.inl a2), none, some (.inl a4)] [.inl 0, .inr 26] g) : AW Γ 6 iX7_readObject P 70 [some (.inr 26), some (.inl a1), some (.inl a2), none, some (.inl a4)] [.inr 26] g :=
  (aw_iconst 0 dX7_readObject_70 (by decide) (aw_mask [true, true, true, false, true] rfl h))
theorem sg_X7_readObject_60 {Γ : Gam} {P : Int32 → Mem → Prop}  (a1 a2 a4 v0 : Int32) {g : Mem} (h : AW Γ 6 iX7_readObject P 61 [some (.inr 26), some (.inl a1), some (.inl a2), none, some (.inl a4)] [.inl 0, .inl v0, .inr 28, .inr 26] g) : AW Γ 6 iX7_readObject P 60 [some (.inr 26), some (.inl a1), some (.inl a2), none, some (.inl a4)] [.inl v0, .inr 28, .inr 26] g :=
  (aw_iconst 0 dX7_readObject_60 (by decide) (aw_mask [true, true, true, false, true] rfl h))
theorem sg_X7_readObject_61 {Γ : Gam} {P : Int32 → Mem → Prop}  (a1 a2 a4 v0 v1 : Int32) {g : Mem} (h : (vp_in (v1 + v0) 81 ∧ ((¬ (g 28 (v1 + v0).toNatClampNeg) = 0 → AW Γ 6 iX7_readObject P 70 [some (.inr 26), some (.inl a1), some (.inl a2), none, some (.inl a4)] [.inr 26] g) ∧ ((g 28 (v1 + v0).toNatClampNeg) = 0 → AW Γ 6 iX7_readObject P 71 [some (.inr 26), some (.inl a1), some (.inl a2), none, some (.inl a4)] [.inl 1, .inr 26] g)))) : AW Γ 6 iX7_readObject P 61 [some (.inr 26), some (.inl a1), some (.inl a2), none, some (.inl a4)] [.inl v0, .inl v1, .inr 28, .inr 26] g :=
  (aw_iadd dX7_readObject_61 (aw_iald aa_28 dX7_readObject_62 h.1 (aw_if_ne 70 dX7_readObject_63 (by decide) (fun c1 => (aw_mask [true, true, true, false, true] rfl (h.2.1 c1))) (fun c1 => (aw_iconst 1 dX7_readObject_66 (by decide) (aw_goto 71 dX7_readObject_67 (by decide) (aw_mask [true, true, true, false, true] rfl (h.2.2 c1))))))))
theorem sg_X7_readObject_93 {Γ : Gam} {P : Int32 → Mem → Prop}  (a1 a2 a3 a4 : Int32) {g : Mem} (h : ((¬ a1 = 1 → AW Γ 6 iX7_readObject P 107 [some (.inr 26), some (.inl a1), some (.inl a2), some (.inl a3), some (.inl a4)] [] g) ∧ (a1 = 1 → (Runs Γ 5 yX7_number iX7_number [.inr 26, .inl (a2 - 1)] g (fun r1 g1 => AW Γ 6 iX7_readObject P 107 [some (.inr 26), some (.inl a1), some (.inl a2), some (.inl a3), some (.inl r1)] [] g1))))) : AW Γ 6 iX7_readObject P 93 [some (.inr 26), some (.inl a1), some (.inl a2), some (.inl a3), some (.inl a4)] [] g :=
  (aw_iload_n dX7_readObject_93 rfl (aw_iconst 1 dX7_readObject_94 (by decide) (aw_icmp_ne 107 dX7_readObject_95 (by decide) (fun c1 => (aw_mask [true, true, true, true, true] rfl (h.1 c1))) (fun c1 => (aw_aload_n dX7_readObject_98 rfl (aw_iload_n dX7_readObject_99 rfl (aw_iconst 1 dX7_readObject_100 (by decide) (aw_isub dX7_readObject_101 (aw_callVi lkX7_81 ckX7_number ca_26 rfl (d := 5) (by decide) [.inl (a2 - 1)] rfl rfl (Nat.le_of_ble_eq_true rfl) dX7_readObject_102 rfl (Runs.mono (h.2 c1) (fun r1 g1 h1_ => (aw_istore [some (.inr 26), some (.inl a1), some (.inl a2), some (.inl a3), some (.inl r1)] dX7_readObject_105 (by decide) rfl (aw_mask [true, true, true, true, true] rfl h1_)))))))))))))
theorem sg_X7_readObject_71 {Γ : Gam} {P : Int32 → Mem → Prop}  (a1 a2 a4 v0 : Int32) {g : Mem} (h : (Runs Γ 4 yX7_take iX7_take [.inr 26, .inl v0] g (fun r1 g1 => AW Γ 6 iX7_readObject P 93 [some (.inr 26), some (.inl a1), some (.inl a2), some (.inl r1), some (.inl a4)] [] g1))) : AW Γ 6 iX7_readObject P 71 [some (.inr 26), some (.inl a1), some (.inl a2), none, some (.inl a4)] [.inl v0, .inr 26] g :=
  (aw_callVi lkX7_77 ckX7_take ca_26 rfl (d := 4) (by decide) [.inl v0] rfl rfl (Nat.le_of_ble_eq_true rfl) dX7_readObject_71 rfl (Runs.mono h (fun r1 g1 h1_ => (aw_istore_n [some (.inr 26), some (.inl a1), some (.inl a2), some (.inl r1), some (.inl a4)] dX7_readObject_74 (by decide) rfl (aw_goto 93 dX7_readObject_75 (by decide) (aw_mask [true, true, true, true, true] rfl h1_))))))
theorem sg_X7_readObject_107 {Γ : Gam} {P : Int32 → Mem → Prop}  (a1 a2 a3 a4 : Int32) {g : Mem} (h : (Runs Γ 5 yX7_number iX7_number [.inr 26, .inl 5] g (fun r1 g1 => (Runs Γ 1 yX7_isFine iX7_isFine [.inr 26] g1 (fun r2 g2 => ((r2 = 0 → P 0 g2) ∧ (¬ r2 = 0 → (vp_in (1 + a2) 81 ∧ (vp_in (11 + a2) 81 ∧ (vp_in (21 + a2) 81 ∧ (vp_in (31 + a2) 81 ∧ P 0 (up (up (up (up (up g2 28 (1 + a2).toNatClampNeg a1) 28 (11 + a2).toNatClampNeg a3) 28 (21 + a2).toNatClampNeg a4) 28 (31 + a2).toNatClampNeg r1) 28 0 (((up (up (up (up g2 28 (1 + a2).toNatClampNeg a1) 28 (11 + a2).toNatClampNeg a3) 28 (21 + a2).toNatClampNeg a4) 28 (31 + a2).toNatClampNeg r1) 28 0) + 1))))))))))))) : AW Γ 6 iX7_readObject P 107 [some (.inr 26), some (.inl a1), some (.inl a2), some (.inl a3), some (.inl a4)] [] g :=
  (aw_aload_n dX7_readObject_107 rfl (aw_iconst 5 dX7_readObject_108 (by decide) (aw_callVi lkX7_81 ckX7_number ca_26 rfl (d := 5) (by decide) [.inl 5] rfl rfl (Nat.le_of_ble_eq_true rfl) dX7_readObject_109 rfl (Runs.mono h (fun r1 g1 h1_ => (aw_istore [some (.inr 26), some (.inl a1), some (.inl a2), some (.inl a3), some (.inl a4), some (.inl r1)] dX7_readObject_112 (by decide) rfl (aw_aload_n dX7_readObject_114 rfl (aw_callVi lkX7_70 ckX7_isFine ca_26 rfl (d := 1) (by decide) [] rfl rfl (Nat.le_of_ble_eq_true rfl) dX7_readObject_115 rfl (Runs.mono h1_ (fun r2 g2 h2_ => (aw_if_eq 172 dX7_readObject_118 (by decide) (fun c1 => (aw_vret rfl dX7_readObject_172 (h2_.1 c1))) (fun c1 => (aw_aload_n dX7_readObject_121 rfl (aw_getr 28 fkX7_13 fa_26_2 dX7_readObject_122 (aw_iconst 1 dX7_readObject_125 (by decide) (aw_iload_n dX7_readObject_126 rfl (aw_iadd dX7_readObject_127 (aw_iload_n dX7_readObject_128 rfl (aw_iast aa_28 dX7_readObject_129 (h2_.2 c1).1 (aw_aload_n dX7_readObject_130 rfl (aw_getr 28 fkX7_13 fa_26_2 dX7_readObject_131 (aw_bipush 11 dX7_readObject_134 (by decide) (aw_iload_n dX7_readObject_136 rfl (aw_iadd dX7_readObject_137 (aw_iload_n dX7_readObject_138 rfl (aw_iast aa_28 dX7_readObject_139 (h2_.2 c1).2.1 (aw_aload_n dX7_readObject_140 rfl (aw_getr 28 fkX7_13 fa_26_2 dX7_readObject_141 (aw_bipush 21 dX7_readObject_144 (by decide) (aw_iload_n dX7_readObject_146 rfl (aw_iadd dX7_readObject_147 (aw_iload dX7_readObject_148 rfl (aw_iast aa_28 dX7_readObject_150 (h2_.2 c1).2.2.1 (aw_aload_n dX7_readObject_151 rfl (aw_getr 28 fkX7_13 fa_26_2 dX7_readObject_152 (aw_bipush 31 dX7_readObject_155 (by decide) (aw_iload_n dX7_readObject_157 rfl (aw_iadd dX7_readObject_158 (aw_iload dX7_readObject_159 rfl (aw_iast aa_28 dX7_readObject_161 (h2_.2 c1).2.2.2.1 (aw_aload_n dX7_readObject_162 rfl (aw_getr 28 fkX7_13 fa_26_2 dX7_readObject_163 (aw_iconst 0 dX7_readObject_166 (by decide) (aw_dup2 dX7_readObject_167 (aw_iald aa_28 dX7_readObject_168 (vp_lit 0 (by decide) (by decide)) (aw_iconst 1 dX7_readObject_169 (by decide) (aw_iadd dX7_readObject_170 (aw_iast aa_28 dX7_readObject_171 (vp_lit 0 (by decide) (by decide)) (aw_vret rfl dX7_readObject_172 (h2_.2 c1).2.2.2.2)))))))))))))))))))))))))))))))))))))))))))))))))
theorem ro_107e {g : Mem} {a1 a2 a3 a4 : Int32} (h : ¬ g 26 11 = -9) (hP : P 0 g) : AW Γ 6 iX7_readObject P 107 [some (.inr 26), some (.inl a1), some (.inl a2), some (.inl a3), some (.inl a4)] [] g := by
  refine sg_X7_readObject_107 _ _ _ _ (number_err h (fun r => Runs.fn ct_X7_isFine ?_))
  rw [fine_F h]
  exact ⟨fun _ => hP, fun z => absurd rfl z⟩
theorem ro_93e {g : Mem} {a1 a2 a3 a4 : Int32} (h : ¬ g 26 11 = -9) (hP : P 0 g) : AW Γ 6 iX7_readObject P 93 [some (.inr 26), some (.inl a1), some (.inl a2), some (.inl a3), some (.inl a4)] [] g :=
  sg_X7_readObject_93 _ _ _ _ ⟨fun _ => ro_107e h hP, fun _ => number_err h (fun r => ro_107e h hP)⟩
theorem ro_107 {g : Mem} {i A B k : Nat} {nn : Nat → Nat} (hL : L ≤ 160) (hc : ∀ j, j < L → c j ≤ 255) (hi : i ≤ L) (hM : TM L c g) (hT : TkM L c i g) (h : g 26 11 = -9) (hA : MA 28 s g) (hn : s 0 < 10) (fr : frP g0 g) (hp : ∀ v, prf s K (sets nn k v) = addO s K A B v) (ha : ∀ v, acc s K k (nn 0) v = decide (v < 6)) (hP : ∀ g', frP g0 g' → RO L c s K (slt L c s K 1 k i nn) g' → P 0 g') : AW Γ 6 iX7_readObject P 107 [some (.inr 26), some (.inl (nI K)), some (.inl (nI (s 0))), some (.inl (nI A)), some (.inl (nI B))] [] g := by
  have hF := tF_le (c := c) hi
  have hB := tB_le (c := c) hi
  rw [slt, ha] at hP
  refine sg_X7_readObject_107 _ _ _ _ ?_
  refine number_fine (w := 5) hL hc hi hM hT h (fun m2 lt g1 f1 e1 t1 => ?_) (fun no r g1 f1 e1 => ?_)
  · have hv := nv_lt hi m2
    generalize nv c (tF L c i) (tB L c i) = v at hv lt hP
    have v6 : v < 6 := by
      rcases Nat.lt_or_ge v 6 with q | q
      · exact q
      · exact absurd (nI_lt (a := 5) (by omega) (by omega)) lt
    rw [if_pos ⟨m2, decide_eq_true v6⟩, slt] at hP
    refine Runs.fn ct_X7_isFine ?_
    rw [fine_T e1]
    refine ⟨fun z => absurd z (by decide), fun _ => ?_⟩
    rw [n1, n11, n21, n31, ix_nI (n := 1 + s 0) (by omega), ix_nI (n := 11 + s 0) (by omega), ix_nI (n := 21 + s 0) (by omega), ix_nI (n := 31 + s 0) (by omega), up_nx (show 0 ≠ 31 + s 0 by omega), up_nx (show 0 ≠ 21 + s 0 by omega), up_nx (show 0 ≠ 11 + s 0 by omega), up_nx (show 0 ≠ 1 + s 0 by omega), f1.1 28 (by decide), hA 0 (by decide), nI_1]
    refine ⟨vp_nI (by omega) (by decide), vp_nI (by omega) (by decide), vp_nI (by omega) (by decide), vp_nI (by omega) (by decide), hP _ ((((((fr.k f1).u _ _).u _ _).u _ _).u _ _).u _ _) ⟨?_, ?_, hB.2.1, ?_⟩⟩
    · rw [up_ne (by decide), up_ne (by decide), up_ne (by decide), up_ne (by decide), up_ne (by decide)]; exact e1
    · exact ((((t1.u _ _).u _ _).u _ _).u _ _).u _ _
    · show MA 28 (prf s K (sets nn k v)) _
      rw [hp]
      exact (((((hA.frK f1).u rfl).u rfl).u rfl).u rfl).u rfl
  · refine Runs.fn ct_X7_isFine ?_
    have e2 := err_ne (by omega) e1
    rw [fine_F e2]
    refine ⟨fun _ => hP g1 (fr.k f1) ?_, fun z => absurd rfl z⟩
    rw [if_neg (fun q => no ⟨q.1, fun z => ?_⟩)]
    · exact ⟨e1, by omega⟩
    · have v6 := of_decide_eq_true q.2
      have := (nI_ltI (a := 5) (by decide) (by omega)).mp z
      omega
theorem ro_93 {g : Mem} {i A : Nat} (hK : K ≤ 3) (hL : L ≤ 160) (hc : ∀ j, j < L → c j ≤ 255) (hi : i ≤ L) (hM : TM L c g) (hT : TkM L c i g) (h : g 26 11 = -9) (hA : MA 28 s g) (hn : s 0 < 10) (fr : frP g0 g) (hP : ∀ g', frP g0 g' → RO L c s K (slt L c s K (nsl K - 1) 1 i (sets (fun _ => 0) 0 A)) g' → P 0 g') : AW Γ 6 iX7_readObject P 93 [some (.inr 26), some (.inl (nI K)), some (.inl (nI (s 0))), some (.inl (nI A)), some (.inl 0)] [] g := by
  have hF := tF_le (c := c) hi
  have hB := tB_le (c := c) hi
  refine sg_X7_readObject_93 _ _ _ _ ⟨fun d => ?_, fun d => ?_⟩
  · have dK : K ≠ 1 := fun z => d (by rw [z]; rfl)
    have e : nsl K = 2 := by unfold nsl; rw [if_neg dK]
    rw [e] at hP
    refine ro_107 (B := 0) (k := 1) (nn := sets (fun _ => 0) 0 A) hL hc hi hM hT h hA hn fr (fun v => ?_) (fun v => ?_) hP
    · unfold prf
      rw [if_neg (by omega), if_neg dK]
      rfl
    · rcases (show K = 0 ∨ K = 2 ∨ K = 3 by omega) with q | q | q <;> (subst q; rfl)
  · have dK : K = 1 := (nI_eq (b := 1) (by omega) (by decide)).mp d
    subst dK
    have e : nsl 1 - 1 = 2 := rfl
    rw [e, slt] at hP
    refine number_fine hL hc hi hM hT h (fun m2 lt g1 f1 e1 t1 => ?_) (fun no r g1 f1 e1 => ?_)
    · have hv := nv_lt hi m2
      generalize nv c (tF L c i) (tB L c i) = v at hv lt hP ⊢
      have v6 : v < s 0 := by
        rcases Nat.lt_or_ge v (s 0) with q | q
        · exact q
        · refine absurd ?_ lt
          rw [lt_iff32, nI_toInt (by omega)]
          rcases Nat.eq_zero_or_pos (s 0) with z | z
          · rw [z]
            show (-1 : Int) < _
            omega
          · rw [show (1 : Int32) = nI 1 from rfl, nI_sb (by omega), nI_toInt (by omega)]
            omega
      rw [if_pos ⟨m2, decide_eq_true v6⟩] at hP
      refine ro_107 (K := 1) (A := A) (B := v) (k := 2) (nn := sets (sets (fun _ => 0) 0 A) 1 v) hL hc hB.2.1 (hM.frK f1) t1 e1 (hA.frK f1) hn (fr.k f1) (fun v => rfl) (fun v => rfl) hP
    · refine ro_107e (err_ne (by omega) e1) (hP g1 (fr.k f1) ?_)
      rw [if_neg (fun q => no ⟨q.1, fun z => ?_⟩)]
      · exact ⟨e1, by omega⟩
      · have v6 : nv c (tF L c i) (tB L c i) < s 0 := of_decide_eq_true q.2
        rw [lt_iff32, nI_toInt (by omega), show (1 : Int32) = nI 1 from rfl, nI_sb (by omega), nI_toInt (by omega)] at z
        omega
theorem acc_n0 {a a' v : Nat} : acc s K 0 a v = acc s K 0 a' v := acc_0
theorem ct_readObject {g : Mem} {i : Nat} (hK : K ≤ 3) (hL : L ≤ 160) (hc : ∀ j, j < L → c j ≤ 255) (hi : i ≤ L) (hM : TM L c g) (hT : TkM L c i g) (h : g 26 11 = -9) (hA : MA 28 s g) (hw : WF s) (hn : s 0 < 10) : Runs Γ 6 yX7_readObject iX7_readObject [.inr 26, .inl (nI K)] g (fun _ g' => frP g g' ∧ RO L c s K (slt L c s K (nsl K) 0 i (fun _ => 0)) g') := by
  have hF := tF_le (c := c) hi
  have hB := tB_le (c := c) hi
  have hm := mT_le (L := L) (c := c) (i := i)
  have e : nsl K = (nsl K - 1) + 1 := by unfold nsl; split <;> rfl
  rw [e, slt]
  have e0 : g 28 0 = nI (s 0) := hA 0 (by decide)
  have yes : mT L c i = 2 → acc s K 0 0 (nv c (tF L c i) (tB L c i)) = true → ∀ g', frK g g' → g' 26 11 = -9 → TkM L c (tB L c i) g' → AW Γ 6 iX7_readObject (fun _ g' => frP g g' ∧ RO L c s K (if mT L c i = 2 ∧ acc s K 0 0 (nv c (tF L c i) (tB L c i)) = true then slt L c s K (nsl K - 1) (0 + 1) (tB L c i) (sets (fun _ => 0) 0 (nv c (tF L c i) (tB L c i))) else .inl (tF L c i)) g') 93 [some (.inr 26), some (.inl (nI K)), some (.inl (nI (s 0))), some (.inl (nI (nv c (tF L c i) (tB L c i)))), some (.inl 0)] [] g' := by
    intro m2 ac g' f1 e1 t1
    rw [if_pos ⟨m2, ac⟩]
    exact ro_93 (g0 := g) hK hL hc hB.2.1 (hM.frK f1) t1 e1 (hA.frK f1) hn ((frP.rf g).k f1) (fun g2 a b => ⟨a, b⟩)
  have no : ¬ (mT L c i = 2 ∧ acc s K 0 0 (nv c (tF L c i) (tB L c i)) = true) → ∀ (a3 : Int32) g', frK g g' → g' 26 11 = nI (tF L c i) → AW Γ 6 iX7_readObject (fun _ g' => frP g g' ∧ RO L c s K (if mT L c i = 2 ∧ acc s K 0 0 (nv c (tF L c i) (tB L c i)) = true then slt L c s K (nsl K - 1) (0 + 1) (tB L c i) (sets (fun _ => 0) 0 (nv c (tF L c i) (tB L c i))) else .inl (tF L c i)) g') 93 [some (.inr 26), some (.inl (nI K)), some (.inl (nI (s 0))), some (.inl a3), some (.inl 0)] [] g' := by
    intro q a3 g' f1 e1
    rw [if_neg q]
    exact ro_93e (err_ne (by omega) e1) ⟨(frP.rf g).k f1, e1, by omega⟩
  refine Runs.intro (by decide) rfl (Nat.le_of_ble_eq_true rfl) (sg_X7_readObject_0 _ ?_)
  rw [e0]
  have e9 : g 26 9 = 2 ↔ mT L c i = 2 := by rw [hT.2.2.1]; exact nI_eq (b := 2) (by omega) (by decide)
  rw [e9]
  have num : ∀ b : Nat, b ≤ 15 → (∀ v, v < 100 → (acc s K 0 0 v = true ↔ v ≤ b)) → AW Γ 6 iX7_readObject (fun _ g' => frP g g' ∧ RO L c s K (if mT L c i = 2 ∧ acc s K 0 0 (nv c (tF L c i) (tB L c i)) = true then slt L c s K (nsl K - 1) (0 + 1) (tB L c i) (sets (fun _ => 0) 0 (nv c (tF L c i) (tB L c i))) else .inl (tF L c i)) g') 89 [some (.inr 26), some (.inl (nI K)), some (.inl (nI (s 0))), none, some (.inl 0)] [.inl (nI b), .inr 26] g := by
    intro b hb hac
    refine sg_X7_readObject_89 _ _ _ _ (number_fine hL hc hi hM hT h (fun m2 lt g1 f1 e1 t1 => ?_) (fun q r g1 f1 e1 => ?_))
    · have hv := nv_lt hi m2
      refine yes m2 ((hac _ hv).mpr ?_) g1 f1 e1 t1
      rw [nI_ltI (by omega) (by omega)] at lt
      omega
    · refine no (fun z => q ⟨z.1, ?_⟩) r g1 f1 e1
      have hv := nv_lt hi z.1
      rw [nI_ltI (by omega) (by omega)]
      have := (hac _ hv).mp z.2
      omega
  refine ⟨fun d => ⟨fun d0 => ?_, fun d0 => ?_⟩, fun d => ?_⟩
  · refine num 3 (by decide) (fun v hv => ?_)
    have k0 : K ≠ 0 := fun z => d0 (by rw [z]; rfl)
    have k3 : K ≠ 3 := fun z => d (by rw [z]; rfl)
    rcases (show K = 1 ∨ K = 2 by omega) with q | q
    · subst q
      show decide (v < 4) = true ↔ _
      rw [decide_eq_true_eq]; omega
    · subst q
      show decide (v < 4) = true ↔ _
      rw [decide_eq_true_eq]; omega
  · refine num 15 (by decide) (fun v hv => ?_)
    have k0 : K = 0 := (nI_eq (b := 0) (by omega) (by decide)).mp d0
    subst k0
    show decide (v < 16) = true ↔ _
    rw [decide_eq_true_eq]; omega
  · have k3 : K = 3 := (nI_eq (b := 3) (by omega) (by decide)).mp d
    have f70 : ¬ (mT L c i = 2 ∧ acc s K 0 0 (nv c (tF L c i) (tB L c i)) = true) → AW Γ 6 iX7_readObject (fun _ g' => frP g g' ∧ RO L c s K (if mT L c i = 2 ∧ acc s K 0 0 (nv c (tF L c i) (tB L c i)) = true then slt L c s K (nsl K - 1) (0 + 1) (tB L c i) (sets (fun _ => 0) 0 (nv c (tF L c i) (tB L c i))) else .inl (tF L c i)) g') 70 [some (.inr 26), some (.inl (nI K)), some (.inl (nI (s 0))), none, some (.inl 0)] [.inr 26] g := by
      intro q
      refine sg_X7_readObject_70 _ _ _ (sg_X7_readObject_71 _ _ _ _ (take_no h (fun r => no q r _ (frK.e g _) (by rw [up_at]; exact hT.1))))
    refine ⟨fun m2 => f70 (fun z => m2 z.1), fun m2 => ?_⟩
    have hv := nv_lt hi m2
    rw [hT.2.2.2.2 m2, nI_leI (by omega) (by omega)]
    have ea : acc s K 0 0 (nv c (tF L c i) (tB L c i)) = kz s (nv c (tF L c i) (tB L c i)) 0 := by rw [k3]; rfl
    refine ⟨fun le => f70 (fun z => ?_), fun le => ⟨fun z => absurd m2 z, fun _ => ⟨fun z => absurd z le, fun _ => ?_⟩⟩⟩
    · rw [ea, kz_t] at z
      omega
    · refine sg_X7_readObject_61 _ _ _ _ _ ?_
      have kd := hw.kd (i := nv c (tF L c i) (tB L c i)) (by omega)
      rw [n1, ix_nI (n := 1 + nv c (tF L c i) (tB L c i)) (by omega), hA _ (by omega)]
      have e00 : nI (s (1 + nv c (tF L c i) (tB L c i))) = 0 ↔ s (1 + nv c (tF L c i) (tB L c i)) = 0 := nI_eq (b := 0) (by omega) (by decide)
      rw [e00]
      refine ⟨vp_nI (by omega) (by decide), fun z => f70 (fun y => ?_), fun z => ?_⟩
      · rw [ea, kz_t] at y
        exact z y.2.2
      · refine sg_X7_readObject_71 _ _ _ _ (take_yes hL hc hi hM hT h (fun g' a b t => ?_))
        rw [hT.2.2.2.2 m2]
        exact yes m2 (by rw [ea, kz_t]; exact ⟨by omega, z⟩) g' a b t
theorem sg_X7_readHold_0 {Γ : Gam} {P : Int32 → Mem → Prop}  (s : St) {g : Mem} (h : ((¬ (g 26 9) = 2 → AW Γ 5 iX7_readHold P 27 [some (.inr 26)] [.inr 26] g) ∧ ((g 26 9) = 2 → (MW 28 s g ∧ (((bi (isH s (g 26 10))) = 0 → AW Γ 5 iX7_readHold P 27 [some (.inr 26)] [.inr 26] g) ∧ (¬ (bi (isH s (g 26 10))) = 0 → AW Γ 5 iX7_readHold P 28 [some (.inr 26)] [.inl 1, .inr 26] g)))))) : AW Γ 5 iX7_readHold P 0 [some (.inr 26)] [] g :=
  (aw_aload_n dX7_readHold_0 rfl (aw_aload_n dX7_readHold_1 rfl (aw_geti fkX7_53 fa_26_9 dX7_readHold_2 (aw_iconst 2 dX7_readHold_5 (by decide) (aw_icmp_ne 27 dX7_readHold_6 (by decide) (fun c1 => (aw_mask [true] rfl (h.1 c1))) (fun c1 => (aw_aload_n dX7_readHold_9 rfl (aw_getr 28 fkX7_13 fa_26_2 dX7_readHold_10 (aw_aload_n dX7_readHold_13 rfl (aw_geti fkX7_64 fa_26_10 dX7_readHold_14 (aw_callSi lkX7_84 ckX7_isHolder (d := 2) (by decide) [.inr 28, .inl (g 26 10)] rfl rfl (Nat.le_of_ble_eq_true rfl) dX7_readHold_17 rfl (Runs.fn ((ct_X7_isHolder aa_28) (h.2 c1).1) (aw_if_eq 27 dX7_readHold_20 (by decide) (fun c2 => (aw_mask [true] rfl ((h.2 c1).2.1 c2))) (fun c2 => (aw_iconst 1 dX7_readHold_23 (by decide) (aw_goto 28 dX7_readHold_24 (by decide) (aw_mask [true] rfl ((h.2 c1).2.2 c2))))))))))))))))))
theorem sg_X7_readHold_27 {Γ : Gam} {P : Int32 → Mem → Prop}  {g : Mem} (h : AW Γ 5 iX7_readHold P 28 [some (.inr 26)] [.inl 0, .inr 26] g) : AW Γ 5 iX7_readHold P 27 [some (.inr 26)] [.inr 26] g :=
  (aw_iconst 0 dX7_readHold_27 (by decide) (aw_mask [true] rfl h))
theorem sg_X7_readHold_28 {Γ : Gam} {P : Int32 → Mem → Prop}  (s : St) (v0 : Int32) {g : Mem} (h : (Runs Γ 4 yX7_take iX7_take [.inr 26, .inl v0] g (fun r1 g1 => ((¬ (g1 26 9) = 2 → AW Γ 5 iX7_readHold P 82 [some (.inr 26), some (.inl r1)] [.inr 26] g1) ∧ ((g1 26 9) = 2 → (((g1 28 0) ≤ (g1 26 10) → AW Γ 5 iX7_readHold P 82 [some (.inr 26), some (.inl r1)] [.inr 26] g1) ∧ (¬ ((g1 28 0) ≤ (g1 26 10)) → (Runs Γ 1 yX7_isFine iX7_isFine [.inr 26] g1 (fun r2 g2 => ((r2 = 0 → AW Γ 5 iX7_readHold P 78 [some (.inr 26), some (.inl r1)] [.inr 26] g2) ∧ (¬ r2 = 0 → (MW 28 s g2 ∧ ((¬ (fI (-9) (refP s r1 (g2 26 10)) (s 41)) = (-9) → AW Γ 5 iX7_readHold P 82 [some (.inr 26), some (.inl r1)] [.inr 26] g2) ∧ ((fI (-9) (refP s r1 (g2 26 10)) (s 41)) = (-9) → AW Γ 5 iX7_readHold P 78 [some (.inr 26), some (.inl r1)] [.inr 26] g2)))))))))))))) : AW Γ 5 iX7_readHold P 28 [some (.inr 26)] [.inl v0, .inr 26] g :=
  (aw_callVi lkX7_77 ckX7_take ca_26 rfl (d := 4) (by decide) [.inl v0] rfl rfl (Nat.le_of_ble_eq_true rfl) dX7_readHold_28 rfl (Runs.mono h (fun r1 g1 h1_ => (aw_istore_n [some (.inr 26), some (.inl r1)] dX7_readHold_31 (by decide) rfl (aw_aload_n dX7_readHold_32 rfl (aw_aload_n dX7_readHold_33 rfl (aw_geti fkX7_53 fa_26_9 dX7_readHold_34 (aw_iconst 2 dX7_readHold_37 (by decide) (aw_icmp_ne 82 dX7_readHold_38 (by decide) (fun c1 => (aw_mask [true, true] rfl (h1_.1 c1))) (fun c1 => (aw_aload_n dX7_readHold_41 rfl (aw_geti fkX7_64 fa_26_10 dX7_readHold_42 (aw_aload_n dX7_readHold_45 rfl (aw_getr 28 fkX7_13 fa_26_2 dX7_readHold_46 (aw_iconst 0 dX7_readHold_49 (by decide) (aw_iald aa_28 dX7_readHold_50 (vp_lit 0 (by decide) (by decide)) (aw_icmp_ge 82 dX7_readHold_51 (by decide) (fun c2 => (aw_mask [true, true] rfl ((h1_.2 c1).1 c2))) (fun c2 => (aw_aload_n dX7_readHold_54 rfl (aw_callVi lkX7_70 ckX7_isFine ca_26 rfl (d := 1) (by decide) [] rfl rfl (Nat.le_of_ble_eq_true rfl) dX7_readHold_55 rfl (Runs.mono ((h1_.2 c1).2 c2) (fun r2 g2 h2_ => (aw_if_eq 78 dX7_readHold_58 (by decide) (fun c3 => (aw_mask [true, true] rfl (h2_.1 c3))) (fun c3 => (aw_aload_n dX7_readHold_61 rfl (aw_getr 28 fkX7_13 fa_26_2 dX7_readHold_62 (aw_iload_n dX7_readHold_65 rfl (aw_aload_n dX7_readHold_66 rfl (aw_geti fkX7_64 fa_26_10 dX7_readHold_67 (aw_callSi lkX7_88 ckX7_indexOf (d := 1) (by decide) [.inr 28, .inl r1, .inl (g2 26 10)] rfl rfl (Nat.le_of_ble_eq_true rfl) dX7_readHold_70 rfl (Runs.fn ((ct_X7_indexOf aa_28) (h2_.2 c3).1) (aw_bipush (-9) dX7_readHold_73 (by decide) (aw_icmp_ne 82 dX7_readHold_75 (by decide) (fun c4 => (aw_mask [true, true] rfl ((h2_.2 c3).2.1 c4))) (fun c4 => (aw_mask [true, true] rfl ((h2_.2 c3).2.2 c4))))))))))))))))))))))))))))))))))))
theorem sg_X7_readHold_82 {Γ : Gam} {P : Int32 → Mem → Prop}  (a1 : Int32) {g : Mem} (h : AW Γ 5 iX7_readHold P 83 [some (.inr 26), some (.inl a1)] [.inl 0, .inr 26] g) : AW Γ 5 iX7_readHold P 82 [some (.inr 26), some (.inl a1)] [.inr 26] g :=
  (aw_iconst 0 dX7_readHold_82 (by decide) (aw_mask [true, true] rfl h))
theorem sg_X7_readHold_78 {Γ : Gam} {P : Int32 → Mem → Prop}  (a1 : Int32) {g : Mem} (h : AW Γ 5 iX7_readHold P 83 [some (.inr 26), some (.inl a1)] [.inl 1, .inr 26] g) : AW Γ 5 iX7_readHold P 78 [some (.inr 26), some (.inl a1)] [.inr 26] g :=
  (aw_iconst 1 dX7_readHold_78 (by decide) (aw_goto 83 dX7_readHold_79 (by decide) (aw_mask [true, true] rfl h)))
theorem sg_X7_readHold_83 {Γ : Gam} {P : Int32 → Mem → Prop}  (a1 v0 : Int32) {g : Mem} (h : (Runs Γ 4 yX7_take iX7_take [.inr 26, .inl v0] g (fun r1 g1 => (Runs Γ 1 yX7_isFine iX7_isFine [.inr 26] g1 (fun r2 g2 => ((r2 = 0 → P 0 g2) ∧ (¬ r2 = 0 → (vp_in (42 + (2 * (g2 28 41))) 81 ∧ (vp_in ((42 + (2 * ((up g2 28 (42 + (2 * (g2 28 41))).toNatClampNeg a1) 28 41))) + 1) 81 ∧ P 0 (up (up (up g2 28 (42 + (2 * (g2 28 41))).toNatClampNeg a1) 28 ((42 + (2 * ((up g2 28 (42 + (2 * (g2 28 41))).toNatClampNeg a1) 28 41))) + 1).toNatClampNeg r1) 28 41 (((up (up g2 28 (42 + (2 * (g2 28 41))).toNatClampNeg a1) 28 ((42 + (2 * ((up g2 28 (42 + (2 * (g2 28 41))).toNatClampNeg a1) 28 41))) + 1).toNatClampNeg r1) 28 41) + 1))))))))))) : AW Γ 5 iX7_readHold P 83 [some (.inr 26), some (.inl a1)] [.inl v0, .inr 26] g :=
  (aw_callVi lkX7_77 ckX7_take ca_26 rfl (d := 4) (by decide) [.inl v0] rfl rfl (Nat.le_of_ble_eq_true rfl) dX7_readHold_83 rfl (Runs.mono h (fun r1 g1 h1_ => (aw_istore_n [some (.inr 26), some (.inl a1), some (.inl r1)] dX7_readHold_86 (by decide) rfl (aw_aload_n dX7_readHold_87 rfl (aw_callVi lkX7_70 ckX7_isFine ca_26 rfl (d := 1) (by decide) [] rfl rfl (Nat.le_of_ble_eq_true rfl) dX7_readHold_88 rfl (Runs.mono h1_ (fun r2 g2 h2_ => (aw_if_eq 143 dX7_readHold_91 (by decide) (fun c1 => (aw_vret rfl dX7_readHold_143 (h2_.1 c1))) (fun c1 => (aw_aload_n dX7_readHold_94 rfl (aw_getr 28 fkX7_13 fa_26_2 dX7_readHold_95 (aw_bipush 42 dX7_readHold_98 (by decide) (aw_iconst 2 dX7_readHold_100 (by decide) (aw_aload_n dX7_readHold_101 rfl (aw_getr 28 fkX7_13 fa_26_2 dX7_readHold_102 (aw_bipush 41 dX7_readHold_105 (by decide) (aw_iald aa_28 dX7_readHold_107 (vp_lit 41 (by decide) (by decide)) (aw_imul dX7_readHold_108 (aw_iadd dX7_readHold_109 (aw_iload_n dX7_readHold_110 rfl (aw_iast aa_28 dX7_readHold_111 (h2_.2 c1).1 (aw_aload_n dX7_readHold_112 rfl (aw_getr 28 fkX7_13 fa_26_2 dX7_readHold_113 (aw_bipush 42 dX7_readHold_116 (by decide) (aw_iconst 2 dX7_readHold_118 (by decide) (aw_aload_n dX7_readHold_119 rfl (aw_getr 28 fkX7_13 fa_26_2 dX7_readHold_120 (aw_bipush 41 dX7_readHold_123 (by decide) (aw_iald aa_28 dX7_readHold_125 (vp_lit 41 (by decide) (by decide)) (aw_imul dX7_readHold_126 (aw_iadd dX7_readHold_127 (aw_iconst 1 dX7_readHold_128 (by decide) (aw_iadd dX7_readHold_129 (aw_iload_n dX7_readHold_130 rfl (aw_iast aa_28 dX7_readHold_131 (h2_.2 c1).2.1 (aw_aload_n dX7_readHold_132 rfl (aw_getr 28 fkX7_13 fa_26_2 dX7_readHold_133 (aw_bipush 41 dX7_readHold_136 (by decide) (aw_dup2 dX7_readHold_138 (aw_iald aa_28 dX7_readHold_139 (vp_lit 41 (by decide) (by decide)) (aw_iconst 1 dX7_readHold_140 (by decide) (aw_iadd dX7_readHold_141 (aw_iast aa_28 dX7_readHold_142 (vp_lit 41 (by decide) (by decide)) (aw_vret rfl dX7_readHold_143 (h2_.2 c1).2.2)))))))))))))))))))))))))))))))))))))))))))))
theorem rh_83e {g : Mem} {a1 v : Int32} (h : ¬ g 26 11 = -9) (hP : P 0 g) : AW Γ 5 iX7_readHold P 83 [some (.inr 26), some (.inl a1)] [.inl v, .inr 26] g := by
  refine sg_X7_readHold_83 _ _ (take_err h (fun r => Runs.fn ct_X7_isFine ?_))
  rw [fine_F h]
  exact ⟨fun _ => hP, fun z => absurd rfl z⟩
theorem ct_readHold {g : Mem} {i : Nat} (hL : L ≤ 160) (hc : ∀ j, j < L → c j ≤ 255) (hi : i ≤ L) (hM : TM L c g) (hT : TkM L c i g) (h : g 26 11 = -9) (hA : MA 28 s g) (hw : WF s) (hr : s 41 < 10) : Runs Γ 5 yX7_readHold iX7_readHold [.inr 26] g (fun _ g' => frP g g' ∧ RO L c s 4 (slt L c s 4 2 0 i (fun _ => 0)) g') := by
  have hF := tF_le (c := c) hi
  have hB := tB_le (c := c) hi
  have hm := mT_le (L := L) (c := c) (i := i)
  have hs0 := hw.n
  rw [slt]
  have ea : acc s 4 0 0 (nv c (tF L c i) (tB L c i)) = hz s (nv c (tF L c i) (tB L c i)) := rfl
  rw [ea]
  have e9 : ∀ (g' : Mem) (j : Nat), TkM L c j g' → (g' 26 9 = 2 ↔ mT L c j = 2) := fun g' j t => by rw [t.2.2.1]; exact nI_eq (b := 2) (by have := mT_le (L := L) (c := c) (i := j); omega) (by decide)
  -- an error at the first number
  have er1 : ¬ (mT L c i = 2 ∧ hz s (nv c (tF L c i) (tB L c i)) = true) → AW Γ 5 iX7_readHold (fun _ g' => frP g g' ∧ RO L c s 4 (if mT L c i = 2 ∧ hz s (nv c (tF L c i) (tB L c i)) = true then slt L c s 4 1 (0 + 1) (tB L c i) (sets (fun _ => 0) 0 (nv c (tF L c i) (tB L c i))) else .inl (tF L c i)) g') 27 [some (.inr 26)] [.inr 26] g := by
    intro q
    rw [if_neg q]
    refine sg_X7_readHold_27 (sg_X7_readHold_28 s _ (take_no h (fun r => ?_)))
    have e1 : up g 26 11 (g 26 8) 26 11 = nI (tF L c i) := by rw [up_at]; exact hT.1
    have e2 := err_ne (by omega) e1
    have fin : frP g (up g 26 11 (g 26 8)) ∧ RO L c s 4 (.inl (tF L c i)) (up g 26 11 (g 26 8)) := ⟨(frP.rf g).k (frK.e g _), e1, by omega⟩
    refine ⟨fun _ => sg_X7_readHold_82 _ (rh_83e e2 fin), fun _ => ⟨fun _ => sg_X7_readHold_82 _ (rh_83e e2 fin), fun _ => Runs.fn ct_X7_isFine ?_⟩⟩
    rw [fine_F e2]
    exact ⟨fun _ => sg_X7_readHold_78 _ (rh_83e e2 fin), fun z => absurd rfl z⟩
  refine Runs.intro (by decide) rfl (Nat.le_of_ble_eq_true rfl) (sg_X7_readHold_0 s ?_)
  rw [e9 g i hT]
  refine ⟨fun m2 => er1 (fun z => m2 z.1), fun m2 => ⟨⟨hA, hw⟩, ?_⟩⟩
  have hv := nv_lt hi m2
  rw [hT.2.2.2.2 m2, hz_nI hw (by omega)]
  refine ⟨fun z => er1 (fun y => ?_), fun z => ?_⟩
  · rw [bi_eq0] at z
    rw [y.2] at z
    cases z
  · rw [bi_ne0] at z
    rw [if_pos ⟨m2, z⟩, slt]
    refine sg_X7_readHold_28 s _ (take_yes hL hc hi hM hT h (fun g1 f1 e1 t1 => ?_))
    rw [hT.2.2.2.2 m2]
    generalize hN : nv c (tF L c i) (tB L c i) = n0 at hv z
    have hi1 := hB.2.1
    generalize tB L c i = i1 at hi1 t1
    have hF1 := tF_le (c := c) hi1
    have hB1 := tB_le (c := c) hi1
    have hA1 := hA.frK f1
    have hM1 := hM.frK f1
    have fr1 := (frP.rf g).k f1
    have es : sets (fun _ => 0) 0 n0 0 = n0 := rfl
    rw [es]
    -- an error at the second number
    have er2 : ¬ (mT L c i1 = 2 ∧ acc s 4 (0 + 1) n0 (nv c (tF L c i1) (tB L c i1)) = true) → AW Γ 5 iX7_readHold (fun _ g' => frP g g' ∧ RO L c s 4 (if mT L c i1 = 2 ∧ acc s 4 (0 + 1) n0 (nv c (tF L c i1) (tB L c i1)) = true then slt L c s 4 0 (0 + 1 + 1) (tB L c i1) (sets (sets (fun _ => 0) 0 n0) (0 + 1) (nv c (tF L c i1) (tB L c i1))) else .inl (tF L c i1)) g') 82 [some (.inr 26), some (.inl (nI n0))] [.inr 26] g1 := by
      intro q
      rw [if_neg q]
      refine sg_X7_readHold_82 _ (sg_X7_readHold_83 _ _ (take_no e1 (fun r => Runs.fn ct_X7_isFine ?_)))
      have y1 : up g1 26 11 (g1 26 8) 26 11 = nI (tF L c i1) := by rw [up_at]; exact t1.1
      have y2 := err_ne (by omega) y1
      rw [fine_F y2]
      exact ⟨fun _ => ⟨fr1.k (frK.e g1 _), y1, by omega⟩, fun z => absurd rfl z⟩
    rw [e9 g1 i1 t1]
    refine ⟨fun m3 => er2 (fun z => m3 z.1), fun m3 => ?_⟩
    have hv1 := nv_lt hi1 m3
    rw [t1.2.2.2.2 m3, hA1 0 (by decide), nI_leI (by omega) (by omega)]
    generalize hN1 : nv c (tF L c i1) (tB L c i1) = n1 at hv1 er2
    have ea1 : acc s 4 (0 + 1) n0 n1 = (decide (n1 < s 0) && !decide (ff (fun j => decide (s (42 + 2 * j) = n0 ∧ s (42 + 2 * j + 1) = n1)) 0 (s 41) < s 41)) := rfl
    refine ⟨fun le => er2 (fun z => ?_), fun le => Runs.fn ct_X7_isFine ?_⟩
    · have := z.2
      rw [ea1, Bool.and_eq_true, decide_eq_true_eq] at this
      omega
    · rw [fine_T e1]
      refine ⟨fun z => absurd z (by decide), fun _ => ⟨⟨hA1, hw⟩, ?_⟩⟩
      rw [t1.2.2.2.2 m3, hN1]
      have ef : fI (-9) (refP s (nI n0) (nI n1)) (s 41) = -9 ↔ ¬ ff (fun j => decide (s (42 + 2 * j) = n0 ∧ s (42 + 2 * j + 1) = n1)) 0 (s 41) < s 41 := by
        unfold fI
        rw [refP_nI hw hv hv1]
        split
        · rename_i y
          exact ⟨fun q => absurd q (nI_ne_neg (by omega) (by decide)), fun q => absurd y q⟩
        · rename_i y
          exact ⟨fun _ => y, fun _ => rfl⟩
      rw [ef]
      refine ⟨fun q => er2 (fun z => ?_), fun q => ?_⟩
      · have := z.2
        rw [ea1, Bool.and_eq_true] at this
        have y := this.2
        simp at y
        have q1 : ff (fun j => decide (s (42 + 2 * j) = n0 ∧ s (42 + 2 * j + 1) = n1)) 0 (s 41) < s 41 := Classical.not_not.mp q
        simp at q1
        omega
      · have ac : acc s 4 (0 + 1) n0 n1 = true := by
          rw [ea1, decide_eq_true (by omega), decide_eq_false q]; rfl
        rw [if_pos ⟨m3, ac⟩, slt]
        refine sg_X7_readHold_78 _ (sg_X7_readHold_83 _ _ (take_yes hL hc hi1 hM1 t1 e1 (fun g2 f2 e2 t2 => Runs.fn ct_X7_isFine ?_)))
        rw [fine_T e2, t1.2.2.2.2 m3, hN1]
        refine ⟨fun z => absurd z (by decide), fun _ => ?_⟩
        have hA2 := hA1.frK f2
        rw [hA2 41 (by decide), n42, ix_nI (n := 42 + 2 * s 41) (by omega), up_nx (show 41 ≠ 42 + 2 * s 41 by omega), hA2 41 (by decide), n42, nI_1, ix_nI (n := 42 + 2 * s 41 + 1) (by omega), up_nx (show 41 ≠ 42 + 2 * s 41 + 1 by omega), up_nx (show 41 ≠ 42 + 2 * s 41 by omega), hA2 41 (by decide), nI_1]
        refine ⟨vp_nI (by omega) (by decide), vp_nI (by omega) (by decide), ((((fr1.k f2).u _ _).u _ _).u _ _), ?_, ((t2.u _ _).u _ _).u _ _, hB1.2.1, ?_⟩
        · rw [up_ne (by decide), up_ne (by decide), up_ne (by decide)]; exact e2
        · show MA 28 (addR s n0 n1) _
          exact ((hA2.u rfl).u rfl).u rfl
end RD
