/-! The class's reader: a statement, the whole text, load. -/
def frS (g g' : Mem) : Prop := ∀ k, k ≠ 1 → k ≠ 3 → (k < 44 ∨ 54 ≤ k) → g' k = g k
theorem frS.trans {g1 g2 g3 : Mem} (h : frS g1 g2) (h' : frS g2 g3) : frS g1 g3 := fun k a b d => by rw [h' k a b d, h k a b d]
theorem frS_rf (g : Mem) : frS g g := fun _ _ _ _ => rfl
theorem TkC.ext {L : Nat} {c : Nat → Nat} {i : Nat} {g g' : Mem} (h : TkC L c i g) (h1 : g' 1 = g 1) (h2 : g' 2 = g 2) : TkC L c i g' := by
  unfold TkC TC at h ⊢
  rw [h1, h2]
  exact h
def Rd (L : Nat) (c : Nat → Nat) (x : Sum Nat (St × Nat)) (r : Int32) (g' : Mem) : Prop := match x with
  | .inl e => r = 0 ∧ g' 1 3 = nI e
  | .inr q => r = 1 ∧ TkC L c q.2 g' ∧ CS 44 q.1 g'
def fin (L : Nat) (c : Nat → Nat) (s : St) (K : Nat) (x : Sum Nat ((Nat → Nat) × Nat)) : Sum Nat (St × Nat) := match x with
  | .inl e => .inl e
  | .inr q => if tT L c q.2 = 3 then .inr (prf s K q.1, tB L c q.2) else .inl (tF L c q.2)
theorem stm_eq {L : Nat} {c : Nat → Nat} {s : St} {i : Nat} : stm L c s i = if tT L c i = 1 ∧ kwd c (tF L c i) (tB L c i) ≠ 9 ∧ full s (kwd c (tF L c i) (tB L c i)) = false then fin L c s (kwd c (tF L c i) (tB L c i)) (slt L c s (kwd c (tF L c i) (tB L c i)) (nsl (kwd c (tF L c i) (tB L c i))) 0 (tB L c i) (fun _ => 0)) else .inl (tF L c i) := by
  unfold stm fin
  split
  · generalize slt L c s (kwd c (tF L c i) (tB L c i)) (nsl (kwd c (tF L c i) (tB L c i))) 0 (tB L c i) (fun _ => 0) = X
    match X with
    | .inl e => rfl
    | .inr (nn, j) => rfl
  · rfl
theorem sg_X5_readStatement_0 {Γ : Gam} {P : Int32 → Mem → Prop}  {g : Mem} (h : (Runs Γ 7 yX5_findStatement iX5_findStatement [.inr 1] g (fun r1 g1 => ((r1 = (-1) → P 0 g1) ∧ (¬ r1 = (-1) → (Runs Γ 1 yX5_isFull iX5_isFull [.inr 1, .inr 44, .inl r1] g1 (fun r2 g2 => ((r2 = 0 → (Runs Γ 2 yX5_advance iX5_advance [.inr 1] g2 (fun r3 g3 => ((¬ r1 = 1 → AW Γ 8 iX5_readStatement P 39 [some (.inr 1), some (.inr 44), some (.inl r1), some (.inl 2), some (.inl 0)] [] g3) ∧ (r1 = 1 → AW Γ 8 iX5_readStatement P 39 [some (.inr 1), some (.inr 44), some (.inl r1), some (.inl 3), some (.inl 0)] [] g3))))) ∧ (¬ r2 = 0 → P 0 g2))))))))) : AW Γ 8 iX5_readStatement P 0 [some (.inr 1), some (.inr 44)] [] g :=
  (aw_aload_n dX5_readStatement_0 rfl (aw_callVi lkX5_43 ckX5_findStatement ca_1 rfl (d := 7) (by decide) [] rfl rfl (Nat.le_of_ble_eq_true rfl) dX5_readStatement_1 rfl (Runs.mono h (fun r1 g1 h1_ => (aw_istore_n [some (.inr 1), some (.inr 44), some (.inl r1)] dX5_readStatement_4 (by decide) rfl (aw_iload_n dX5_readStatement_5 rfl (aw_iconst (-1) dX5_readStatement_6 (by decide) (aw_icmp_eq 19 dX5_readStatement_7 (by decide) (fun c1 => (aw_iconst 0 dX5_readStatement_19 (by decide) (aw_iret rfl (by decide) dX5_readStatement_20 (h1_.1 c1)))) (fun c1 => (aw_aload_n dX5_readStatement_10 rfl (aw_aload_n dX5_readStatement_11 rfl (aw_iload_n dX5_readStatement_12 rfl (aw_callVi lkX5_47 ckX5_isFull ca_1 rfl (d := 1) (by decide) [.inr 44, .inl r1] rfl rfl (Nat.le_of_ble_eq_true rfl) dX5_readStatement_13 rfl (Runs.mono (h1_.2 c1) (fun r2 g2 h2_ => (aw_if_eq 21 dX5_readStatement_16 (by decide) (fun c2 => (aw_aload_n dX5_readStatement_21 rfl (aw_callVv lkX5_36 ckX5_advance ca_1 rfl (d := 2) (by decide) [] rfl rfl (Nat.le_of_ble_eq_true rfl) dX5_readStatement_22 rfl (Runs.mono (h2_.1 c2) (fun r3 g3 h3_ => (aw_iload_n dX5_readStatement_25 rfl (aw_iconst 1 dX5_readStatement_26 (by decide) (aw_icmp_ne 34 dX5_readStatement_27 (by decide) (fun c3 => (aw_iconst 2 dX5_readStatement_34 (by decide) (aw_istore_n [some (.inr 1), some (.inr 44), some (.inl r1), some (.inl 2)] dX5_readStatement_35 (by decide) rfl (aw_iconst 0 dX5_readStatement_36 (by decide) (aw_istore [some (.inr 1), some (.inr 44), some (.inl r1), some (.inl 2), some (.inl 0)] dX5_readStatement_37 (by decide) rfl (aw_mask [true, true, true, true, true] rfl (h3_.1 c3))))))) (fun c3 => (aw_iconst 3 dX5_readStatement_30 (by decide) (aw_goto 35 dX5_readStatement_31 (by decide) (aw_istore_n [some (.inr 1), some (.inr 44), some (.inl r1), some (.inl 3)] dX5_readStatement_35 (by decide) rfl (aw_iconst 0 dX5_readStatement_36 (by decide) (aw_istore [some (.inr 1), some (.inr 44), some (.inl r1), some (.inl 3), some (.inl 0)] dX5_readStatement_37 (by decide) rfl (aw_mask [true, true, true, true, true] rfl (h3_.2 c3)))))))))))))))) (fun c2 => (aw_iconst 0 dX5_readStatement_19 (by decide) (aw_iret rfl (by decide) dX5_readStatement_20 (h2_.2 c2))))))))))))))))))))
theorem sg_X5_readStatement_39 {Γ : Gam} {P : Int32 → Mem → Prop}  (a2 a3 a4 : Int32) {g : Mem} (h : ((a3 ≤ a4 → (((g 1 2) = 3 → (Runs Γ 2 yX5_advance iX5_advance [.inr 1] g (fun r1 g1 => (Runs Γ 2 yX5_perform iX5_perform [.inr 1, .inr 44, .inl a2] g1 (fun r2 g2 => P 1 g2))))) ∧ (¬ (g 1 2) = 3 → P 0 g))) ∧ (¬ (a3 ≤ a4) → (Runs Γ 1 yX5_numberValue iX5_numberValue [.inr 1] g (fun r3 g3 => ((r3 = (-1) → P 0 g3) ∧ (¬ r3 = (-1) → (Runs Γ 3 yX5_accepts iX5_accepts [.inr 1, .inr 44, .inl a2, .inl a4, .inl r3] g3 (fun r4 g4 => ((¬ r4 = 0 → (vp_in a4 3 ∧ (Runs Γ 2 yX5_advance iX5_advance [.inr 1] (up g4 3 a4.toNatClampNeg r3) (fun r5 g5 => AW Γ 8 iX5_readStatement P 39 [some (.inr 1), some (.inr 44), some (.inl a2), some (.inl a3), some (.inl (a4 + 1))] [] g5)))) ∧ (r4 = 0 → P 0 g4))))))))))) : AW Γ 8 iX5_readStatement P 39 [some (.inr 1), some (.inr 44), some (.inl a2), some (.inl a3), some (.inl a4)] [] g :=
  (aw_iload dX5_readStatement_39 rfl (aw_iload_n dX5_readStatement_41 rfl (aw_icmp_ge 91 dX5_readStatement_42 (by decide) (fun c1 => (aw_aload_n dX5_readStatement_91 rfl (aw_geti fkX5_19 fa_1_2 dX5_readStatement_92 (aw_iconst 3 dX5_readStatement_95 (by decide) (aw_icmp_eq 101 dX5_readStatement_96 (by decide) (fun c2 => (aw_aload_n dX5_readStatement_101 rfl (aw_callVv lkX5_36 ckX5_advance ca_1 rfl (d := 2) (by decide) [] rfl rfl (Nat.le_of_ble_eq_true rfl) dX5_readStatement_102 rfl (Runs.mono ((h.1 c1).1 c2) (fun r1 g1 h1_ => (aw_aload_n dX5_readStatement_105 rfl (aw_aload_n dX5_readStatement_106 rfl (aw_iload_n dX5_readStatement_107 rfl (aw_callVv lkX5_58 ckX5_perform ca_1 rfl (d := 2) (by decide) [.inr 44, .inl a2] rfl rfl (Nat.le_of_ble_eq_true rfl) dX5_readStatement_108 rfl (Runs.mono h1_ (fun r2 g2 h2_ => (aw_iconst 1 dX5_readStatement_111 (by decide) (aw_iret rfl (by decide) dX5_readStatement_112 h2_))))))))))))) (fun c2 => (aw_iconst 0 dX5_readStatement_99 (by decide) (aw_iret rfl (by decide) dX5_readStatement_100 ((h.1 c1).2 c2))))))))) (fun c1 => (aw_aload_n dX5_readStatement_45 rfl (aw_callVi lkX5_51 ckX5_numberValue ca_1 rfl (d := 1) (by decide) [] rfl rfl (Nat.le_of_ble_eq_true rfl) dX5_readStatement_46 rfl (Runs.mono (h.2 c1) (fun r3 g3 h3_ => (aw_istore [some (.inr 1), some (.inr 44), some (.inl a2), some (.inl a3), some (.inl a4), some (.inl r3)] dX5_readStatement_49 (by decide) rfl (aw_iload dX5_readStatement_51 rfl (aw_iconst (-1) dX5_readStatement_53 (by decide) (aw_icmp_eq 70 dX5_readStatement_54 (by decide) (fun c3 => (aw_iconst 0 dX5_readStatement_70 (by decide) (aw_iret rfl (by decide) dX5_readStatement_71 (h3_.1 c3)))) (fun c3 => (aw_aload_n dX5_readStatement_57 rfl (aw_aload_n dX5_readStatement_58 rfl (aw_iload_n dX5_readStatement_59 rfl (aw_iload dX5_readStatement_60 rfl (aw_iload dX5_readStatement_62 rfl (aw_callVi lkX5_54 ckX5_accepts ca_1 rfl (d := 3) (by decide) [.inr 44, .inl a2, .inl a4, .inl r3] rfl rfl (Nat.le_of_ble_eq_true rfl) dX5_readStatement_64 rfl (Runs.mono (h3_.2 c3) (fun r4 g4 h4_ => (aw_if_ne 72 dX5_readStatement_67 (by decide) (fun c4 => (aw_aload_n dX5_readStatement_72 rfl (aw_getr 3 fkX5_28 fa_1_5 dX5_readStatement_73 (aw_iload dX5_readStatement_76 rfl (aw_iload dX5_readStatement_78 rfl (aw_iast aa_3 dX5_readStatement_80 (h4_.1 c4).1 (aw_aload_n dX5_readStatement_81 rfl (aw_callVv lkX5_36 ckX5_advance ca_1 rfl (d := 2) (by decide) [] rfl rfl (Nat.le_of_ble_eq_true rfl) dX5_readStatement_82 rfl (Runs.mono (h4_.1 c4).2 (fun r5 g5 h5_ => (aw_iinc (a4 + 1) [some (.inr 1), some (.inr 44), some (.inl a2), some (.inl a3), some (.inl (a4 + 1)), some (.inl r3)] dX5_readStatement_85 rfl (by rfl) (by decide) rfl (aw_goto 39 dX5_readStatement_88 (by decide) (aw_mask [true, true, true, true, true] rfl h5_))))))))))))) (fun c4 => (aw_iconst 0 dX5_readStatement_70 (by decide) (aw_iret rfl (by decide) dX5_readStatement_71 (h4_.2 c4))))))))))))))))))))))))))
theorem lp_rs39 {Γ : Gam} {P : Int32 → Mem → Prop} {L : Nat} {c : Nat → Nat} {s : St} {K : Nat} {g0 : Mem} (hL : L ≤ 160) (hc : ∀ j, j < L → c j ≤ 255) (hK : K ≤ 4) (hw : WF s) (hf : full s K = false) : ∀ f k i nn g, k + f = nsl K → i ≤ L → TkC L c i g → CS 44 s g → (∀ m, m < k → g 3 m = nI (nn m) ∧ nn m < 100) → frS g0 g → (∀ r g', frS g0 g' → TC L c g' → Rd L c (fin L c s K (slt L c s K f k i nn)) r g' → P r g') → AW Γ 8 iX5_readStatement P 39 [some (.inr 1), some (.inr 44), some (.inl (nI K)), some (.inl (nI (nsl K))), some (.inl (nI k))] [] g := by
  have hns : 2 ≤ nsl K ∧ nsl K ≤ 3 ∧ (K = 1 → nsl K = 3) := by
    unfold nsl
    split <;> omega
  intro f
  induction f with
  | zero =>
    intro k i nn g hk hi hT hC hnn fr hP
    have hB := tB_le (c := c) hi
    have htl := tT_le (L := L) (c := c) (i := i)
    rw [slt] at hP
    refine sg_X5_readStatement_39 _ _ _ ⟨fun _ => ?_, fun d => absurd (nI_le (by omega) (by omega)) d⟩
    rw [hT.2.1]
    refine ⟨fun d => ?_, fun d => hP 0 g fr hT.1 ?_⟩
    · have d3 : tT L c i = 3 := (nI_eq (b := 3) (by omega) (by decide)).mp d
      refine (ct_X5_advance hL hc hB.2.1 hT.1 hT.2.2.2).mono (fun r1 g1 q => ?_)
      obtain ⟨q1, q2⟩ := q
      have hC1 : CS 44 s g1 := hC.ext (fun k k1 k2 => q2 k (by omega))
      refine (ct_X5_perform (nn := nn) ⟨hC1, hw⟩ hK hf (by rw [q2 3 (by decide)]; exact (hnn 0 (by omega)).1) (by rw [q2 3 (by decide)]; exact (hnn 1 (by omega)).1) (fun e => by rw [q2 3 (by decide)]; exact (hnn 2 (by have := hns.2.2 e; omega)).1)).mono (fun r2 g2 y => ?_)
      have t2 : TkC L c (tB L c i) g2 := q1.ext (y.2 1 (by omega)) (y.2 2 (by omega))
      refine hP 1 g2 (fun k a b d => by rw [y.2 k d, q2 k a, fr k a b d]) t2.1 ?_
      unfold fin
      dsimp only
      rw [if_pos d3]
      exact ⟨rfl, t2, y.1⟩
    · unfold fin
      dsimp only
      rw [if_neg (fun z => d (by rw [z]; rfl))]
      exact ⟨rfl, hT.2.2.1⟩
  | succ f ih =>
    intro k i nn g hk hi hT hC hnn fr hP
    have hB := tB_le (c := c) hi
    rw [slt] at hP
    refine sg_X5_readStatement_39 _ _ _ ⟨fun d => absurd d (nI_ge (by omega) (by omega)), fun _ => ?_⟩
    refine Runs.fn (ct_X5_numberValue hL hc hi hT) ?_
    unfold nmI
    by_cases m2 : mT L c i = 2
    · have hv := nv_lt hi m2
      rw [if_pos m2]
      generalize ev : nv c (tF L c i) (tB L c i) = v at hv hP
      refine ⟨fun z => absurd z (nI_ne_neg (by omega) (by decide)), fun _ => ?_⟩
      refine Runs.fn (ct_X5_accepts (a := nn 0) ⟨hC, hw⟩ hK (by omega) (fun _ e => hnn 0 (by omega)) hv) ?_
      refine ⟨fun z => ?_, fun z => hP 0 g fr hT.1 ?_⟩
      · rw [bi_ne0] at z
        rw [if_pos ⟨m2, z⟩] at hP
        refine ⟨vp_nI (by omega) (by decide), ?_⟩
        rw [ix_nI (n := k) (by omega), nI_1]
        have h1 : up g 3 k (nI v) 1 = g 1 := up_ne (by decide)
        have h2 : up g 3 k (nI v) 2 = g 2 := up_ne (by decide)
        have hT1 := hT.ext h1 h2
        refine (ct_X5_advance hL hc hB.2.1 hT1.1 hT1.2.2.2).mono (fun r1 g1 q => ?_)
        obtain ⟨q1, q2⟩ := q
        refine ih (k + 1) (tB L c i) (sets nn k v) g1 (by omega) hB.2.1 q1 (hC.ext (fun j j1 j2 => by rw [q2 j (by omega), up_ne (by omega)])) (fun m hm => ?_) (fun j a b d => by rw [q2 j a, up_ne b, fr j a b d]) hP
        rw [q2 3 (by decide)]
        unfold sets
        by_cases em : m = k
        · subst em
          rw [if_pos rfl, up_at]
          exact ⟨rfl, hv⟩
        · rw [if_neg em, up_nx em]
          exact hnn m (by omega)
      · rw [bi_eq0] at z
        rw [if_neg (fun y => by rw [y.2] at z; cases z)]
        exact ⟨rfl, hT.2.2.1⟩
    · rw [if_neg m2]
      refine ⟨fun _ => hP 0 g fr hT.1 ?_, fun z => absurd rfl z⟩
      rw [if_neg (fun y => m2 y.1)]
      exact ⟨rfl, hT.2.2.1⟩
theorem ct_X5_readStatement {Γ : Gam} {L : Nat} {c : Nat → Nat} {s : St} {g : Mem} {i : Nat} (hL : L ≤ 160) (hc : ∀ j, j < L → c j ≤ 255) (hi : i ≤ L) (hT : TkC L c i g) (hC : CS 44 s g) (hw : WF s) : Runs Γ 8 yX5_readStatement iX5_readStatement [.inr 1, .inr 44] g (fun r g' => frS g g' ∧ TC L c g' ∧ Rd L c (stm L c s i) r g') := by
  have hB := tB_le (c := c) hi
  rw [stm_eq]
  refine Runs.intro (by decide) rfl (Nat.le_of_ble_eq_true rfl) (sg_X5_readStatement_0 ?_)
  refine Runs.fn (ct_X5_findStatement hL hc hi hT) ?_
  unfold fst
  by_cases d : tT L c i = 1 ∧ kwd c (tF L c i) (tB L c i) ≠ 9
  · have hK : kwd c (tF L c i) (tB L c i) ≤ 4 := by
      rcases kwd_le c (tF L c i) (tB L c i) with q | q
      · exact q
      · exact absurd q d.2
    rw [if_pos d]
    generalize kwd c (tF L c i) (tB L c i) = K at hK d ⊢
    refine ⟨fun z => absurd z (nI_ne_neg (by omega) (by decide)), fun _ => Runs.fn (ct_X5_isFull ⟨hC, hw⟩ hK) ⟨fun z => ?_, fun z => ?_⟩⟩
    · rw [bi_eq0] at z
      rw [if_pos ⟨d.1, d.2, z⟩]
      refine (ct_X5_advance hL hc hB.2.1 hT.1 hT.2.2.2).mono (fun r1 g1 q => ?_)
      obtain ⟨q1, q2⟩ := q
      have fr1 : frS g g1 := fun k a b d => q2 k a
      have go := lp_rs39 (Γ := Γ) (P := fun r g' => frS g g' ∧ TC L c g' ∧ Rd L c (fin L c s K (slt L c s K (nsl K) 0 (tB L c i) (fun _ => 0))) r g') (g0 := g) hL hc hK hw z (nsl K) 0 (tB L c i) (fun _ => 0) g1 (by omega) hB.2.1 q1 (hC.ext (fun j j1 j2 => q2 j (by omega))) (fun m hm => absurd hm (Nat.not_lt_zero _)) fr1 (fun r g' a b e => ⟨a, b, e⟩)
      refine ⟨fun y => ?_, fun y => ?_⟩
      · have e : nsl K = 2 := by unfold nsl; rw [if_neg (fun x => y (by rw [x]; rfl))]
        rw [e] at go ⊢
        exact go
      · have e1 : K = 1 := (nI_eq (b := 1) (by omega) (by decide)).mp y
        have e : nsl K = 3 := by unfold nsl; rw [if_pos e1]
        rw [e] at go ⊢
        exact go
    · rw [bi_ne0] at z
      rw [if_neg (fun y => by rw [y.2.2] at z; cases z)]
      exact ⟨frS_rf g, hT.1, rfl, hT.2.2.1⟩
  · rw [if_neg d, if_neg (fun y => d ⟨y.1, y.2.1⟩)]
    exact ⟨fun _ => ⟨frS_rf g, hT.1, rfl, hT.2.2.1⟩, fun z => absurd rfl z⟩
def Rq (x : Sum Nat St) (r : Int32) (g' : Mem) : Prop := match x with
  | .inl e => r = nI e ∧ e ≤ 160
  | .inr s' => r = -1 ∧ CS 44 s' g'
theorem slt_e {L : Nat} {c : Nat → Nat} {s : St} {K : Nat} : ∀ f k i nn e, i ≤ L → slt L c s K f k i nn = .inl e → e ≤ L
  | 0, k, i, nn, e, hi, h => by rw [slt] at h; cases h
  | f + 1, k, i, nn, e, hi, h => by
    rw [slt] at h
    split at h
    · exact slt_e f _ _ _ e (tB_le hi).2.1 h
    · injection h with h
      rw [← h]
      exact (tF_le hi).2
theorem stm_e {L : Nat} {c : Nat → Nat} {s : St} {i e : Nat} (hi : i ≤ L) (h : stm L c s i = .inl e) : e ≤ L := by
  rw [stm_eq] at h
  split at h
  · generalize ex : slt L c s (kwd c (tF L c i) (tB L c i)) (nsl (kwd c (tF L c i) (tB L c i))) 0 (tB L c i) (fun _ => 0) = X at h
    match X, ex, h with
    | .inl x, ex, h =>
      injection h with h
      rw [← h]
      exact slt_e _ _ _ _ _ (tB_le hi).2.1 ex
    | .inr (nn, j), ex, h =>
      have q := slt_le _ _ _ _ _ _ (tB_le hi).2.1 ex
      unfold fin at h
      dsimp only at h
      split at h
      · cases h
      · injection h with h
        rw [← h]
        exact (tF_le q.2).2
  · injection h with h
    rw [← h]
    exact (tF_le hi).2
theorem sg_X5_readInto_0 {Γ : Gam} {P : Int32 → Mem → Prop}  {g : Mem} (h : (Runs Γ 2 yX4_reset iX4_reset [.inr 44] g (fun r1 g1 => (Runs Γ 2 yX5_advance iX5_advance [.inr 1] (up g1 1 4 0) (fun r2 g2 => AW Γ 9 iX5_readInto P 15 [some (.inr 1), some (.inr 44), some (.inl 0)] [] g2))))) : AW Γ 9 iX5_readInto P 0 [some (.inr 1), some (.inr 44)] [] g :=
  (aw_aload_n dX5_readInto_0 rfl (aw_callVv lkX5_31 ckX4_reset (cs_ isSt_44) rfl (d := 2) (by decide) [] rfl rfl (Nat.le_of_ble_eq_true rfl) dX5_readInto_1 rfl (Runs.mono h (fun r1 g1 h1_ => (aw_aload_n dX5_readInto_4 rfl (aw_iconst 0 dX5_readInto_5 (by decide) (aw_putf fpX5_25 fa_1_4 (vp_nar_int _) rfl dX5_readInto_6 (aw_aload_n dX5_readInto_9 rfl (aw_callVv lkX5_36 ckX5_advance ca_1 rfl (d := 2) (by decide) [] rfl rfl (Nat.le_of_ble_eq_true rfl) dX5_readInto_10 rfl (Runs.mono h1_ (fun r2 g2 h2_ => (aw_iconst 0 dX5_readInto_13 (by decide) (aw_istore_n [some (.inr 1), some (.inr 44), some (.inl 0)] dX5_readInto_14 (by decide) rfl (aw_mask [true, true, true] rfl h2_))))))))))))))
theorem sg_X5_readInto_15 {Γ : Gam} {P : Int32 → Mem → Prop}  (a2 : Int32) {g : Mem} (h : ((160 ≤ a2 → P (-1) g) ∧ (¬ (160 ≤ a2) → (((g 1 2) = 0 → P (-1) g) ∧ (¬ (g 1 2) = 0 → (Runs Γ 8 yX5_readStatement iX5_readStatement [.inr 1, .inr 44] g (fun r1 g1 => ((¬ r1 = 0 → AW Γ 9 iX5_readInto P 15 [some (.inr 1), some (.inr 44), some (.inl (a2 + 1))] [] g1) ∧ (r1 = 0 → P (g1 1 3) g1))))))))) : AW Γ 9 iX5_readInto P 15 [some (.inr 1), some (.inr 44), some (.inl a2)] [] g :=
  (aw_iload_n dX5_readInto_15 rfl (aw_sipush 160 dX5_readInto_16 (by decide) (aw_icmp_ge 48 dX5_readInto_19 (by decide) (fun c1 => (aw_iconst (-1) dX5_readInto_48 (by decide) (aw_iret rfl (vp_nar_int _) dX5_readInto_49 (h.1 c1)))) (fun c1 => (aw_aload_n dX5_readInto_22 rfl (aw_geti fkX5_19 fa_1_2 dX5_readInto_23 (aw_if_eq 48 dX5_readInto_26 (by decide) (fun c2 => (aw_iconst (-1) dX5_readInto_48 (by decide) (aw_iret rfl (vp_nar_int _) dX5_readInto_49 ((h.2 c1).1 c2)))) (fun c2 => (aw_aload_n dX5_readInto_29 rfl (aw_aload_n dX5_readInto_30 rfl (aw_callVi lkX5_39 ckX5_readStatement ca_1 rfl (d := 8) (by decide) [.inr 44] rfl rfl (Nat.le_of_ble_eq_true rfl) dX5_readInto_31 rfl (Runs.mono ((h.2 c1).2 c2) (fun r1 g1 h1_ => (aw_if_ne 42 dX5_readInto_34 (by decide) (fun c3 => (aw_iinc (a2 + 1) [some (.inr 1), some (.inr 44), some (.inl (a2 + 1))] dX5_readInto_42 rfl (by rfl) (by decide) rfl (aw_goto 15 dX5_readInto_45 (by decide) (aw_mask [true, true, true] rfl (h1_.1 c3))))) (fun c3 => (aw_aload_n dX5_readInto_37 rfl (aw_geti fkX5_22 fa_1_3 dX5_readInto_38 (aw_iret rfl (vp_nar_int _) dX5_readInto_41 (h1_.2 c3)))))))))))))))))))
theorem lp_ri15 {Γ : Gam} {P : Int32 → Mem → Prop} {L : Nat} {c : Nat → Nat} {g0 : Mem} (hL : L ≤ 160) (hc : ∀ j, j < L → c j ≤ 255) : ∀ f k i s g, k + f = 160 → i ≤ L → TkC L c i g → CS 44 s g → WF s → frS g0 g → (∀ r g', frS g0 g' → TC L c g' → Rq (par L c f s i) r g' → P r g') → AW Γ 9 iX5_readInto P 15 [some (.inr 1), some (.inr 44), some (.inl (nI k))] [] g := by
  intro f
  induction f with
  | zero =>
    intro k i s g hk hi hT hC hw fr hP
    rw [par] at hP
    exact sg_X5_readInto_15 _ ⟨fun _ => hP _ g fr hT.1 ⟨rfl, hC⟩, fun d => absurd (nI_le (a := 160) (by omega) (by omega)) d⟩
  | succ f ih =>
    intro k i s g hk hi hT hC hw fr hP
    have htl := tT_le (L := L) (c := c) (i := i)
    rw [par] at hP
    refine sg_X5_readInto_15 _ ⟨fun d => absurd d (nI_ge (b := 160) (by omega) (by decide)), fun _ => ?_⟩
    rw [hT.2.1]
    refine ⟨fun d => ?_, fun d => ?_⟩
    · have d0 : tT L c i = 0 := (nI_eq (b := 0) (by omega) (by decide)).mp d
      rw [if_pos d0] at hP
      exact hP _ g fr hT.1 ⟨rfl, hC⟩
    · rw [if_neg (fun z => d (by rw [z]; rfl))] at hP
      refine (ct_X5_readStatement hL hc hi hT hC hw).mono (fun r1 g1 q => ?_)
      obtain ⟨q1, q2, q3⟩ := q
      have fr1 := fr.trans q1
      rw [nI_1]
      generalize ex : stm L c s i = X at q3 hP
      match X, ex, q3, hP with
      | .inl e, ex, q3, hP =>
        obtain ⟨y1, y2⟩ := q3
        refine ⟨fun z => absurd y1 z, fun _ => hP _ g1 fr1 q2 ⟨y2, ?_⟩⟩
        have := stm_e hi ex
        omega
      | .inr (s', j), ex, q3, hP =>
        obtain ⟨y1, y2, y3⟩ := q3
        have ok := stm_ok hi hw ex
        exact ⟨fun _ => ih (k + 1) j s' g1 (by omega) ok.2.2 y2 y3 ok.1 fr1 hP, fun z => absurd (y1.symm.trans z) (by decide)⟩
theorem sg_X4_reset_0 {Γ : Gam} {P : Int32 → Mem → Prop} (b : Nat) (hb : isSt b) {g : Mem} (h : P 0 (fil (up (up (up g b 0 0) b 5 0) b 8 0) (b + 9) 10 0)) : AW Γ 2 iX4_reset P 0 [some (.inr b)] [] g :=
  (aw_aload_n dX4_reset_0 rfl (aw_iconst 0 dX4_reset_1 (by decide) (aw_putf fpX4_9 (fs_0 hb) (vp_nar_int _) rfl dX4_reset_2 (aw_aload_n dX4_reset_5 rfl (aw_iconst 0 dX4_reset_6 (by decide) (aw_putf fpX4_28 (fs_5 hb) (vp_nar_int _) rfl dX4_reset_7 (aw_aload_n dX4_reset_10 rfl (aw_iconst 0 dX4_reset_11 (by decide) (aw_putf fpX4_37 (fs_8 hb) (vp_nar_int _) rfl dX4_reset_12 (aw_aload_n dX4_reset_15 rfl (aw_getr (b + 9) fkX4_46 (fs_11 hb) dX4_reset_16 (aw_iconst 0 dX4_reset_19 (by decide) (aw_callSv lkX4_49 ckJ7_fill_53178 (d := 1) (by decide) [.inr (b + 9), .inl 0] rfl rfl (Nat.le_of_ble_eq_true rfl) dX4_reset_20 rfl (Runs.fn (ct_J7_fill (as_9 hb) (by decide)) (aw_vret rfl dX4_reset_23 h)))))))))))))))
theorem ct_X4_resetD {Γ : Gam} {g : Mem} : Runs Γ 2 yX4_reset iX4_reset [.inr 44] g (fun _ g' => CS 44 z0 g' ∧ ∀ k, (k < 44 ∨ 54 ≤ k) → g' k = g k) := by
  refine Runs.intro (by decide) rfl (Nat.le_of_ble_eq_true rfl) (sg_X4_reset_0 44 isSt_44 ⟨?_, fun k hk => ?_⟩)
  · refine ⟨?_, fun i hi => absurd hi (Nat.not_lt_zero _), fun i hi => absurd hi (Nat.not_lt_zero _), fun i hi => absurd hi (Nat.not_lt_zero _), fun i hi => absurd hi (Nat.not_lt_zero _), ?_, fun i hi => absurd hi (Nat.not_lt_zero _), ?_, fun i hi => absurd hi (Nat.not_lt_zero _), fun i hi => ?_⟩
    · rw [fil_ne (by decide), up_nx (by decide), up_nx (by decide), up_at]; rfl
    · rw [fil_ne (by decide), up_nx (by decide), up_at]; rfl
    · rw [fil_ne (by decide), up_at]; rfl
    · rw [fil_at hi]; rfl
  · rw [fil_ne (by omega), up_ne (by omega), up_ne (by omega), up_ne (by omega)]
theorem ct_X5_readInto {Γ : Gam} {L : Nat} {c : Nat → Nat} {g : Mem} (hL : L ≤ 160) (hc : ∀ j, j < L → c j ≤ 255) (hT : TC L c g) : Runs Γ 9 yX5_readInto iX5_readInto [.inr 1, .inr 44] g (fun r g' => frS g g' ∧ TC L c g' ∧ Rq (par L c 160 z0 0) r g') := by
  refine Runs.intro (by decide) rfl (Nat.le_of_ble_eq_true rfl) (sg_X5_readInto_0 ?_)
  refine ct_X4_resetD.mono (fun r1 g1 q => ?_)
  obtain ⟨q1, q2⟩ := q
  have hT1 : TC L c (up g1 1 4 0) := ⟨by rw [up_nx (by decide), q2 1 (by omega)]; exact hT.1, fun j hj => by rw [up_ne (by decide), q2 2 (by omega)]; exact hT.2 j hj⟩
  refine (ct_X5_advance (i := 0) hL hc (Nat.zero_le _) hT1 (up_at _ _ _ _)).mono (fun r2 g2 y => ?_)
  obtain ⟨y1, y2⟩ := y
  exact lp_ri15 (g0 := g) hL hc 160 0 0 z0 g2 rfl (Nat.zero_le _) y1 (q1.ext (fun k k1 k2 => by rw [y2 k (by omega), up_ne (by omega)])) wf_z0 (fun k a b d => by rw [y2 k a, up_ne a, q2 k d]) (fun r g' a b e => ⟨a, b, e⟩)
theorem sg_X6_load_0 {Γ : Gam} {P : Int32 → Mem → Prop}  {g : Mem} (h : (Runs Γ 9 yX5_readInto iX5_readInto [.inr 1, .inr 44] g (fun r1 g1 => ((r1 = (-1) → (Runs Γ 3 yX6_saveState iX6_saveState [.inr 0] g1 (fun r2 g2 => (Runs Γ 1 yX4_copyFrom iX4_copyFrom [.inr 34, .inr 44] g2 (fun r3 g3 => (Runs Γ 3 yX4_startRun iX4_startRun [.inr 34] g3 (fun r4 g4 => P (g4 34 0) (up g4 1 1 0)))))))) ∧ (¬ r1 = (-1) → P ((-10) - r1) g1))))) : AW Γ 10 iX6_load P 0 [some (.inr 0)] [] g :=
  (aw_aload_n dX6_load_0 rfl (aw_getr 1 fkX6_12 fa_0_0 dX6_load_1 (aw_aload_n dX6_load_4 rfl (aw_getr 44 fkX6_23 fa_0_2 dX6_load_5 (aw_callVi lkX6_69 ckX5_readInto ca_1 rfl (d := 9) (by decide) [.inr 44] rfl rfl (Nat.le_of_ble_eq_true rfl) dX6_load_8 rfl (Runs.mono h (fun r1 g1 h1_ => (aw_istore_n [some (.inr 0), some (.inl r1)] dX6_load_11 (by decide) rfl (aw_iload_n dX6_load_12 rfl (aw_iconst (-1) dX6_load_13 (by decide) (aw_icmp_eq 22 dX6_load_14 (by decide) (fun c1 => (aw_aload_n dX6_load_22 rfl (aw_callVv lkX6_73 ckX6_saveState ca_0 rfl (d := 3) (by decide) [] rfl rfl (Nat.le_of_ble_eq_true rfl) dX6_load_23 rfl (Runs.mono (h1_.1 c1) (fun r2 g2 h2_ => (aw_aload_n dX6_load_26 rfl (aw_getr 34 fkX6_19 fa_0_1 dX6_load_27 (aw_aload_n dX6_load_30 rfl (aw_getr 44 fkX6_23 fa_0_2 dX6_load_31 (aw_callVv lkX6_76 ckX4_copyFrom (cs_ isSt_34) rfl (d := 1) (by decide) [.inr 44] rfl rfl (Nat.le_of_ble_eq_true rfl) dX6_load_34 rfl (Runs.mono h2_ (fun r3 g3 h3_ => (aw_aload_n dX6_load_37 rfl (aw_getr 34 fkX6_19 fa_0_1 dX6_load_38 (aw_callVv lkX6_80 ckX4_startRun (cs_ isSt_34) rfl (d := 3) (by decide) [] rfl rfl (Nat.le_of_ble_eq_true rfl) dX6_load_41 rfl (Runs.mono h3_ (fun r4 g4 h4_ => (aw_aload_n dX6_load_44 rfl (aw_getr 1 fkX6_12 fa_0_0 dX6_load_45 (aw_iconst 0 dX6_load_48 (by decide) (aw_putf fpX6_61 fa_1_1 (vp_nar_int _) rfl dX6_load_49 (aw_aload_n dX6_load_52 rfl (aw_getr 34 fkX6_19 fa_0_1 dX6_load_53 (aw_geti fkX6_83 (fs_0 isSt_34) dX6_load_56 (aw_iret rfl (vp_nar_int _) dX6_load_59 h4_))))))))))))))))))))))))) (fun c1 => (aw_bipush (-10) dX6_load_17 (by decide) (aw_iload_n dX6_load_19 rfl (aw_isub dX6_load_20 (aw_iret rfl (vp_nar_int _) dX6_load_21 (h1_.2 c1)))))))))))))))))
theorem oc_load {Γ : Gam} {a : Ab} {g : Mem} (h : CI a g) (hw : WA a) : Runs Γ 10 yX6_load iX6_load [.inr 0] g (OpC (sp_load a) g) := by
  obtain ⟨h1, h2, h3, h4⟩ := h
  refine Runs.intro (by decide) rfl (Nat.le_of_ble_eq_true rfl) (sg_X6_load_0 ?_)
  refine (ct_X5_readInto hw.2.2.2.1 hw.2.2.2.2 h3).mono (fun r1 g1 q => ?_)
  obtain ⟨q1, q2, q3⟩ := q
  have hCI : CI a g1 := ⟨h1.ext (fun k k1 k2 => q1 k (by omega) (by omega) (by omega)), h2.ext (q1 4 (by decide) (by decide) (by decide)) (fun k hk => q1 k (by omega) (by omega) (by omega)), q2, h4.ext (q1 0 (by decide) (by decide) (by decide)) (fun k k1 k2 => q1 k (by omega) (by omega) (by omega))⟩
  have fC : frC g g1 := fun k k1 k2 => q1 k (by omega) (by omega) (by omega)
  unfold sp_load
  generalize ex : par a.2.2.1 a.2.2.2 160 z0 0 = X at q3
  match X, ex, q3 with
  | .inl e, ex, q3 =>
    obtain ⟨y1, y2⟩ := q3
    refine ⟨fun z => absurd (y1.symm.trans z) (nI_ne_neg (by omega) (by decide)), fun _ => ⟨?_, hCI, fC⟩⟩
    rw [y1]
  | .inr s', ex, q3 =>
    obtain ⟨y1, y2⟩ := q3
    have hw' := par_wf 160 z0 0 s' wf_z0 (Nat.zero_le _) ex
    refine ⟨fun _ => ?_, fun z => absurd y1 z⟩
    refine (ct_X6_saveState hCI hw).mono (fun r2 g2 p => ?_)
    obtain ⟨p1, p2, p3⟩ := p
    have hD : CS 44 s' g2 := y2.ext (fun k k1 k2 => p3 k (by omega) (by omega) (by omega))
    refine (ct_X4_copyFrom isSt_34 isSt_44 (by decide)).mono (fun r3 g3 u => ?_)
    obtain ⟨u1, u2⟩ := u
    have hS := u2 s' hw' hD
    have hH : HC (push a.2.1 a.1) g3 := p1.ext (u1 4 (by omega)) (fun k hk => u1 k (by omega))
    refine (ct_X4_startRun isSt_34 ⟨hS, hw'⟩).mono (fun r4 g4 v => ?_)
    obtain ⟨v1, v2⟩ := v
    have e0 : g4 34 0 = nI (s' 0) := by
      rw [v2.1]
      rw [beg_lo (by decide)]
    have cI : CI (beg s', push a.2.1 a.1, a.2.2.1, a.2.2.2) g4 := hCI.saved v2 (hH.ext (v1 4 (by decide)) (fun k hk => v1 k (by omega))) (by rw [v1 0 (by decide), u1 0 (by omega)]; exact p2) (fun k k1 k2 => by rw [v1 k (by omega), u1 k (by omega), p3 k (by omega) (by omega) (by omega)])
    refine ⟨e0, ⟨cI.1.ext (fun k k1 k2 => by rw [up_ne (by omega)]), cI.2.1.ext (by rw [up_ne (by decide)]) (fun k hk => by rw [up_ne (by omega)]), ⟨up_at _ _ _ _, fun j hj => absurd hj (Nat.not_lt_zero _)⟩, cI.2.2.2.ext (by rw [up_ne (by decide)]) (fun k k1 k2 => by rw [up_ne (by omega)])⟩, fun k k1 k2 => ?_⟩
    rw [up_ne (by omega), v1 k (by omega), u1 k (by omega), p3 k (by omega) (by omega) (by omega), fC k k1 k2]
