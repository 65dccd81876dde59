/-! The class's rounds. -/
/-- what a round finds -/
def nw (s : St) (E : Rel) : Rel := fun x y => !E x y && der s E x y
/-- the cause of (x, y) out of E stands in the memory -/
def cz (s : St) (E : Rel) (x y : Nat) (g : Mem) : Prop := g 16 (10 * x + y) = nI (rl s E x y) ∧ g 17 (10 * x + y) = nI (pt s E (rl s E x y) x y) ∧ g 18 (10 * x + y) = nI (p1 s E (rl s E x y) x y) ∧ g 19 (10 * x + y) = p2i s E (rl s E x y) x y
theorem cz.ext {s : St} {E : Rel} {x y : Nat} {g g' : Mem} (h : cz s E x y g) (he : ∀ k, 16 ≤ k → k ≤ 19 → g' k (10 * x + y) = g k (10 * x + y)) : cz s E x y g' := by
  unfold cz
  rw [he 16 (by decide) (by decide), he 17 (by decide) (by decide), he 18 (by decide) (by decide), he 19 (by decide) (by decide)]
  exact h
def Sc (s : St) (E : Rel) (r : Nat) (g0 : Mem) (a b : Nat) (f : Bool) (g : Mem) : Prop := (∀ k, (k < 15 ∨ 19 < k) → g k = g0 k) ∧ (∀ x y, x < s 0 → y < s 0 → (pR (nw s E) a b x y = true → g 15 (10 * x + y) = nI r ∧ cz s E x y g) ∧ (pR (nw s E) a b x y = false → ∀ k, g k (10 * x + y) = g0 k (10 * x + y))) ∧ (f = true ↔ ∃ x y, x < s 0 ∧ y < s 0 ∧ pR (nw s E) a b x y = true)
theorem Sc_row {s : St} {E : Rel} {r : Nat} {g0 g : Mem} {a : Nat} {f : Bool} (h : Sc s E r g0 a (s 0) f g) : Sc s E r g0 (a + 1) 0 f g := by
  refine ⟨h.1, fun x y hx hy => ?_, h.2.2.trans ⟨?_, ?_⟩⟩
  · rw [pR_row hy]; exact h.2.1 x y hx hy
  · intro ⟨x, y, hx, hy, e⟩
    exact ⟨x, y, hx, hy, by rw [pR_row hy]; exact e⟩
  · intro ⟨x, y, hx, hy, e⟩
    exact ⟨x, y, hx, hy, by rw [pR_row hy] at e; exact e⟩
theorem Sc_f {s : St} {E : Rel} {r : Nat} {g0 g : Mem} {a b : Nat} {f : Bool} (h : Sc s E r g0 a b f g) (hi : nw s E a b = false) : Sc s E r g0 a (b + 1) f g := by
  refine ⟨h.1, fun x y hx hy => ?_, h.2.2.trans ⟨?_, ?_⟩⟩
  · rw [pR_f hi]; exact h.2.1 x y hx hy
  · intro ⟨x, y, hx, hy, e⟩
    exact ⟨x, y, hx, hy, by rw [pR_f hi]; exact e⟩
  · intro ⟨x, y, hx, hy, e⟩
    exact ⟨x, y, hx, hy, by rw [pR_f hi] at e; exact e⟩
theorem cau_at {s : St} {E : Rel} {a b : Nat} {g : Mem} {v : Int32} : cz s E a b (up (cau s E (rl s E a b) a b g) 15 (10 * a + b) v) := by
  unfold cz cau sc
  simp [up, upd]
theorem up_nxk {g : Mem} {q j i k : Nat} {v : Int32} (h : i ≠ j) : up g q j v k i = g k i := by
  by_cases e : k = q
  · subst e; exact up_nx h
  · rw [up_ne e]
theorem cau_nx {s : St} {E : Rel} {r a b : Nat} {g : Mem} {v : Int32} {k i : Nat} (h : i ≠ 10 * a + b) : up (cau s E r a b g) 15 (10 * a + b) v k i = g k i := by
  unfold cau sc
  rw [up_nxk h, up_nxk h, up_nxk h, up_nxk h, up_nxk h]
theorem cau_ne {s : St} {E : Rel} {r a b : Nat} {g : Mem} {v : Int32} {k : Nat} (h : k < 15 ∨ 19 < k) : up (cau s E r a b g) 15 (10 * a + b) v k = g k := by
  unfold cau sc
  rw [up_ne (by omega), up_ne (by omega), up_ne (by omega), up_ne (by omega), up_ne (by omega)]
theorem Sc_t {s : St} {E : Rel} {r : Nat} {g0 g : Mem} {a b : Nat} {f : Bool} (hw : WF s) (ha : a < s 0) (hb : b < s 0) (h : Sc s E r g0 a b f g) (hi : nw s E a b = true) : Sc s E r g0 a (b + 1) true (up (cau s E (rl s E a b) a b g) 15 (10 * a + b) (nI r)) := by
  have hn := hw.n
  refine ⟨fun k hk => by rw [cau_ne hk, h.1 k hk], fun x y hx hy => ?_, ⟨fun _ => ⟨a, b, ha, hb, pR_t hi⟩, fun _ => rfl⟩⟩
  by_cases e : x = a ∧ y = b
  · obtain ⟨rfl, rfl⟩ := e
    rw [pR_t hi]
    exact ⟨fun _ => ⟨up_at _ _ _ _, cau_at⟩, fun c => Bool.noConfusion c⟩
  · have hne : 10 * x + y ≠ 10 * a + b := by omega
    rw [pR_n e, cau_nx hne]
    refine ⟨fun c => ⟨((h.2.1 x y hx hy).1 c).1, ((h.2.1 x y hx hy).1 c).2.ext (fun k _ _ => cau_nx hne)⟩, fun c k => ?_⟩
    rw [cau_nx hne]
    exact (h.2.1 x y hx hy).2 c k
theorem Ae.ext {s : St} {E : Rel} {g g' : Mem} (h : Ae s E g) (he : ∀ k, 6 ≤ k → k < 15 → g' k = g k) : Ae s E g' := by
  unfold Ae RolesOk at h ⊢
  rw [he 6 (by decide) (by decide), he 7 (by decide) (by decide), he 8 (by decide) (by decide), he 9 (by decide) (by decide), he 10 (by decide) (by decide), he 11 (by decide) (by decide), he 13 (by decide) (by decide), he 14 (by decide) (by decide)]
  exact h
theorem rl_1 {s : St} {E : Rel} {a b : Nat} (h : pt s E 1 a b < s 0) : rl s E a b = 1 := ff_T (n := 4) (decide_eq_true h)
theorem rl_s1 {s : St} {E : Rel} {a b : Nat} (h : ¬ pt s E 1 a b < s 0) : rl s E a b = ff (fun r => decide (pt s E r a b < s 0)) 2 4 := ff_F (n := 4) (decide_eq_false h)
theorem rl_s2 {s : St} {E : Rel} {a b : Nat} (h : ¬ pt s E 2 a b < s 0) : ff (fun r => decide (pt s E r a b < s 0)) 2 4 = ff (fun r => decide (pt s E r a b < s 0)) 3 3 := ff_F (n := 3) (decide_eq_false h)
theorem rl_s3 {s : St} {E : Rel} {a b : Nat} (h : ¬ pt s E 3 a b < s 0) : ff (fun r => decide (pt s E r a b < s 0)) 3 3 = ff (fun r => decide (pt s E r a b < s 0)) 4 2 := ff_F (n := 2) (decide_eq_false h)
theorem rl_s4 {s : St} {E : Rel} {a b : Nat} (h : ¬ pt s E 4 a b < s 0) : ff (fun r => decide (pt s E r a b < s 0)) 4 2 = ff (fun r => decide (pt s E r a b < s 0)) 5 1 := ff_F (n := 1) (decide_eq_false h)
theorem rl_s5 {s : St} {E : Rel} {a b : Nat} (h : ¬ pt s E 5 a b < s 0) : ff (fun r => decide (pt s E r a b < s 0)) 5 1 = 6 := ff_F (n := 0) (decide_eq_false h)
theorem nw_of {s : St} {E : Rel} {a b : Nat} (hE : E a b = false) {r : Nat} (h : rl s E a b = r) (hr : r < 6) : nw s E a b = true := by
  unfold nw der
  rw [hE, h, decide_eq_true hr]; rfl
theorem sg_X0_findRound_0 {Γ : Gam} {P : Int32 → Mem → Prop}  (a2 : Int32) {g : Mem} (h : AW Γ 4 iX0_findRound P 5 [some (.inr 12), some (.inr 6), some (.inl a2), some (.inl 0), some (.inl 0)] [] g) : AW Γ 4 iX0_findRound P 0 [some (.inr 12), some (.inr 6), some (.inl a2)] [] g :=
  (aw_iconst 0 dX0_findRound_0 (by decide) (aw_istore_n [some (.inr 12), some (.inr 6), some (.inl a2), some (.inl 0)] dX0_findRound_1 (by decide) rfl (aw_iconst 0 dX0_findRound_2 (by decide) (aw_istore [some (.inr 12), some (.inr 6), some (.inl a2), some (.inl 0), some (.inl 0)] dX0_findRound_3 (by decide) rfl (aw_mask [true, true, true, true, true] rfl h)))))
theorem sg_X0_findRound_5 {Γ : Gam} {P : Int32 → Mem → Prop}  (a2 a3 a4 : Int32) {g : Mem} (h : (((g 6 0) ≤ a4 → (Runs Γ 2 yX0_publish iX0_publish [.inr 12, .inl (g 6 0), .inl a2] g (fun r1 g1 => (bz a3 ∧ P a3 g1)))) ∧ (¬ ((g 6 0) ≤ a4) → AW Γ 4 iX0_findRound P 17 [some (.inr 12), some (.inr 6), some (.inl a2), some (.inl a3), some (.inl a4), some (.inl 0)] [] g))) : AW Γ 4 iX0_findRound P 5 [some (.inr 12), some (.inr 6), some (.inl a2), some (.inl a3), some (.inl a4)] [] g :=
  (aw_iload dX0_findRound_5 rfl (aw_aload_n dX0_findRound_7 rfl (aw_geti fkX0_57 fa_6_0 dX0_findRound_8 (aw_icmp_ge 109 dX0_findRound_11 (by decide) (fun c1 => (aw_aload_n dX0_findRound_109 rfl (aw_aload_n dX0_findRound_110 rfl (aw_geti fkX0_57 fa_6_0 dX0_findRound_111 (aw_iload_n dX0_findRound_114 rfl (aw_callVv lkX0_92 ckX0_publish ca_12 rfl (d := 2) (by decide) [.inl (g 6 0), .inl a2] rfl rfl (Nat.le_of_ble_eq_true rfl) dX0_findRound_115 rfl (Runs.mono (h.1 c1) (fun r1 g1 h1_ => (aw_iload_n dX0_findRound_118 rfl (aw_iret rfl h1_.1 dX0_findRound_119 h1_.2)))))))))) (fun c1 => (aw_iconst 0 dX0_findRound_14 (by decide) (aw_istore [some (.inr 12), some (.inr 6), some (.inl a2), some (.inl a3), some (.inl a4), some (.inl 0)] dX0_findRound_15 (by decide) rfl (aw_mask [true, true, true, true, true, true] rfl (h.2 c1)))))))))
theorem sg_X0_findRound_17 {Γ : Gam} {P : Int32 → Mem → Prop}  (a2 a3 a4 a5 : Int32) {g : Mem} (h : (((g 6 0) ≤ a5 → AW Γ 4 iX0_findRound P 5 [some (.inr 12), some (.inr 6), some (.inl a2), some (.inl a3), some (.inl (a4 + 1))] [] g) ∧ (¬ ((g 6 0) ≤ a5) → (vp_in (a4 * 10 + a5) 100 ∧ (((g 15 (a4 * 10 + a5).toNatClampNeg) = (-9) → (Runs Γ 3 yX0_findGift iX0_findGift [.inr 12, .inr 6, .inl a4, .inl a5] g (fun r1 g1 => ((¬ r1 = 0 → AW Γ 4 iX0_findRound P 82 [some (.inr 12), some (.inr 6), some (.inl a2), none, some (.inl a4), some (.inl a5)] [] g1) ∧ (r1 = 0 → (Runs Γ 3 yX0_findTaking iX0_findTaking [.inr 12, .inr 6, .inl a4, .inl a5] g1 (fun r2 g2 => ((¬ r2 = 0 → AW Γ 4 iX0_findRound P 82 [some (.inr 12), some (.inr 6), some (.inl a2), none, some (.inl a4), some (.inl a5)] [] g2) ∧ (r2 = 0 → (Runs Γ 3 yX0_findEndowment iX0_findEndowment [.inr 12, .inr 6, .inl a4, .inl a5] g2 (fun r3 g3 => ((r3 = 0 → AW Γ 4 iX0_findRound P 17 [some (.inr 12), some (.inr 6), some (.inl a2), some (.inl a3), some (.inl a4), some (.inl (a5 + 1))] [] g3) ∧ (¬ r3 = 0 → AW Γ 4 iX0_findRound P 82 [some (.inr 12), some (.inr 6), some (.inl a2), none, some (.inl a4), some (.inl a5)] [] g3))))))))))))) ∧ (¬ (g 15 (a4 * 10 + a5).toNatClampNeg) = (-9) → AW Γ 4 iX0_findRound P 17 [some (.inr 12), some (.inr 6), some (.inl a2), some (.inl a3), some (.inl a4), some (.inl (a5 + 1))] [] g)))))) : AW Γ 4 iX0_findRound P 17 [some (.inr 12), some (.inr 6), some (.inl a2), some (.inl a3), some (.inl a4), some (.inl a5)] [] g :=
  (aw_iload dX0_findRound_17 rfl (aw_aload_n dX0_findRound_19 rfl (aw_geti fkX0_57 fa_6_0 dX0_findRound_20 (aw_icmp_ge 103 dX0_findRound_23 (by decide) (fun c1 => (aw_iinc (a4 + 1) [some (.inr 12), some (.inr 6), some (.inl a2), some (.inl a3), some (.inl (a4 + 1)), some (.inl a5)] dX0_findRound_103 rfl (by rfl) (by decide) rfl (aw_goto 5 dX0_findRound_106 (by decide) (aw_mask [true, true, true, true, true] rfl (h.1 c1))))) (fun c1 => (aw_aload_n dX0_findRound_26 rfl (aw_getr 15 fkX0_18 fa_12_2 dX0_findRound_27 (aw_iload dX0_findRound_30 rfl (aw_iload dX0_findRound_32 rfl (aw_callSNi nkX0_74 ckX6_pair (d := 1) (by decide) [.inl a4, .inl a5] rfl rfl (Nat.le_of_ble_eq_true rfl) dX0_findRound_34 rfl (Runs.fn ct_X6_pair (aw_iald aa_15 dX0_findRound_37 (h.2 c1).1 (aw_bipush (-9) dX0_findRound_38 (by decide) (aw_icmp_eq 46 dX0_findRound_40 (by decide) (fun c2 => (aw_aload_n dX0_findRound_46 rfl (aw_aload_n dX0_findRound_47 rfl (aw_iload dX0_findRound_48 rfl (aw_iload dX0_findRound_50 rfl (aw_callVi lkX0_82 ckX0_findGift ca_12 rfl (d := 3) (by decide) [.inr 6, .inl a4, .inl a5] rfl rfl (Nat.le_of_ble_eq_true rfl) dX0_findRound_52 rfl (Runs.mono ((h.2 c1).2.1 c2) (fun r1 g1 h1_ => (aw_if_ne 82 dX0_findRound_55 (by decide) (fun c3 => (aw_mask [true, true, true, false, true, true] rfl (h1_.1 c3))) (fun c3 => (aw_aload_n dX0_findRound_58 rfl (aw_aload_n dX0_findRound_59 rfl (aw_iload dX0_findRound_60 rfl (aw_iload dX0_findRound_62 rfl (aw_callVi lkX0_86 ckX0_findTaking ca_12 rfl (d := 3) (by decide) [.inr 6, .inl a4, .inl a5] rfl rfl (Nat.le_of_ble_eq_true rfl) dX0_findRound_64 rfl (Runs.mono (h1_.2 c3) (fun r2 g2 h2_ => (aw_if_ne 82 dX0_findRound_67 (by decide) (fun c4 => (aw_mask [true, true, true, false, true, true] rfl (h2_.1 c4))) (fun c4 => (aw_aload_n dX0_findRound_70 rfl (aw_aload_n dX0_findRound_71 rfl (aw_iload dX0_findRound_72 rfl (aw_iload dX0_findRound_74 rfl (aw_callVi lkX0_89 ckX0_findEndowment ca_12 rfl (d := 3) (by decide) [.inr 6, .inl a4, .inl a5] rfl rfl (Nat.le_of_ble_eq_true rfl) dX0_findRound_76 rfl (Runs.mono (h2_.2 c4) (fun r3 g3 h3_ => (aw_if_eq 97 dX0_findRound_79 (by decide) (fun c5 => (aw_iinc (a5 + 1) [some (.inr 12), some (.inr 6), some (.inl a2), some (.inl a3), some (.inl a4), some (.inl (a5 + 1))] dX0_findRound_97 rfl (by rfl) (by decide) rfl (aw_goto 17 dX0_findRound_100 (by decide) (aw_mask [true, true, true, true, true, true] rfl (h3_.1 c5))))) (fun c5 => (aw_mask [true, true, true, false, true, true] rfl (h3_.2 c5)))))))))))))))))))))))))))))) (fun c2 => (aw_goto 97 dX0_findRound_43 (by decide) (aw_iinc (a5 + 1) [some (.inr 12), some (.inr 6), some (.inl a2), some (.inl a3), some (.inl a4), some (.inl (a5 + 1))] dX0_findRound_97 rfl (by rfl) (by decide) rfl (aw_goto 17 dX0_findRound_100 (by decide) (aw_mask [true, true, true, true, true, true] rfl ((h.2 c1).2.2 c2))))))))))))))))))))
theorem sg_X0_findRound_82 {Γ : Gam} {P : Int32 → Mem → Prop}  (a2 a4 a5 : Int32) {g : Mem} (h : (vp_in (a4 * 10 + a5) 100 ∧ AW Γ 4 iX0_findRound P 17 [some (.inr 12), some (.inr 6), some (.inl a2), some (.inl 1), some (.inl a4), some (.inl (a5 + 1))] [] (up g 15 (a4 * 10 + a5).toNatClampNeg a2))) : AW Γ 4 iX0_findRound P 82 [some (.inr 12), some (.inr 6), some (.inl a2), none, some (.inl a4), some (.inl a5)] [] g :=
  (aw_aload_n dX0_findRound_82 rfl (aw_getr 15 fkX0_18 fa_12_2 dX0_findRound_83 (aw_iload dX0_findRound_86 rfl (aw_iload dX0_findRound_88 rfl (aw_callSNi nkX0_74 ckX6_pair (d := 1) (by decide) [.inl a4, .inl a5] rfl rfl (Nat.le_of_ble_eq_true rfl) dX0_findRound_90 rfl (Runs.fn ct_X6_pair (aw_iload_n dX0_findRound_93 rfl (aw_iast aa_15 dX0_findRound_94 h.1 (aw_iconst 1 dX0_findRound_95 (by decide) (aw_istore_n [some (.inr 12), some (.inr 6), some (.inl a2), some (.inl 1), some (.inl a4), some (.inl a5)] dX0_findRound_96 (by decide) rfl (aw_iinc (a5 + 1) [some (.inr 12), some (.inr 6), some (.inl a2), some (.inl 1), some (.inl a4), some (.inl (a5 + 1))] dX0_findRound_97 rfl (by rfl) (by decide) rfl (aw_goto 17 dX0_findRound_100 (by decide) (aw_mask [true, true, true, true, true, true] rfl h.2)))))))))))))
theorem lp_X0_fr17 {Γ : Gam} {P : Int32 → Mem → Prop} {s : St} {E : Rel} {g0 : Mem} {r a : Nat} (hw : WF s) (h : Ae s E g0) (h15 : ∀ a b, a < s 0 → b < s 0 → (g0 15 (10 * a + b) = -9 ↔ E a b = false)) (ha : a < s 0) (hP : ∀ f g, Sc s E r g0 (a + 1) 0 f g → AW Γ 4 iX0_findRound P 5 [some (.inr 12), some (.inr 6), some (.inl (nI r)), some (.inl (bi f)), some (.inl (nI (a + 1)))] [] g) : ∀ n b f g, b + n = s 0 → Sc s E r g0 a b f g → AW Γ 4 iX0_findRound P 17 [some (.inr 12), some (.inr 6), some (.inl (nI r)), some (.inl (bi f)), some (.inl (nI a)), some (.inl (nI b))] [] g := by
  intro n
  have hn := hw.n
  induction n with
  | zero =>
    intro b f g hb hS
    refine sg_X0_findRound_17 _ _ _ _ ?_
    have e6 : g 6 0 = nI (s 0) := by rw [hS.1 6 (by decide)]; exact h.1.1
    rw [show b = s 0 by omega] at hS ⊢
    rw [e6, nI_1]
    exact ⟨fun _ => hP f g (Sc_row hS), fun c => absurd (nI_le (by omega) (by omega)) c⟩
  | succ n ih =>
    intro b f g hb hS
    have hbs : b < s 0 := by omega
    have hA : Ae s E g := h.ext (fun k k1 k2 => hS.1 k (by omega))
    have e15 : g 15 (10 * a + b) = -9 ↔ E a b = false := by
      rw [(hS.2.1 a b ha hbs).2 (pR_z _ _ _) 15]
      exact h15 a b ha hbs
    have hit : ∀ r', rl s E a b = r' → r' < 6 → E a b = false → ∀ g1, g1 = cau s E r' a b g → AW Γ 4 iX0_findRound P 82 [some (.inr 12), some (.inr 6), some (.inl (nI r)), none, some (.inl (nI a)), some (.inl (nI b))] [] g1 := by
      intro r' er hr hE g1 eg
      refine sg_X0_findRound_82 _ _ _ ?_
      rw [pairc, ix_nI (n := 10 * a + b) (by omega), nI_1, eg, ← er]
      exact ⟨vp_nI (by omega) (by decide), ih (b + 1) true _ (by omega) (Sc_t hw ha hbs hS (nw_of hE er hr))⟩
    have miss : nw s E a b = false → ∀ g1, g1 = g → AW Γ 4 iX0_findRound P 17 [some (.inr 12), some (.inr 6), some (.inl (nI r)), some (.inl (bi f)), some (.inl (nI a)), some (.inl (nI (b + 1)))] [] g1 := by
      intro e g1 eg
      rw [eg]
      exact ih (b + 1) f g (by omega) (Sc_f hS e)
    refine sg_X0_findRound_17 _ _ _ _ ?_
    have e6 : g 6 0 = nI (s 0) := hA.1.1
    rw [e6, pairc, ix_nI (n := 10 * a + b) (by omega), e15, nI_1, nI_1]
    refine ⟨fun c => absurd c (nI_ge (by omega) (by omega)), fun _ => ⟨vp_nI (by omega) (by decide), fun hE => ?_, fun hE => ?_⟩⟩
    · refine (ct_X0_findGift hw hA ha hbs).mono (fun r1 g1 q1 => ?_)
      rcases q1 with ⟨c1, rfl, e1⟩ | ⟨c1, rfl, rfl⟩
      · exact ⟨fun _ => hit 1 (rl_1 c1) (by decide) hE g1 e1, fun c => absurd c (by decide)⟩
      · refine ⟨fun c => absurd rfl c, fun _ => (ct_X0_findTaking hw hA ha hbs).mono (fun r2 g2 q2 => ?_)⟩
        rcases q2 with ⟨c2, rfl, e2⟩ | ⟨c2, c3, rfl, e2⟩ | ⟨c2, c3, c4, rfl, e2⟩ | ⟨c2, c3, c4, rfl, rfl⟩
        · exact ⟨fun _ => hit 2 ((rl_s1 c1).trans (ff_T (n := 3) (decide_eq_true c2))) (by decide) hE g2 e2, fun c => absurd c (by decide)⟩
        · exact ⟨fun _ => hit 3 ((rl_s1 c1).trans ((rl_s2 c2).trans (ff_T (n := 2) (decide_eq_true c3)))) (by decide) hE g2 e2, fun c => absurd c (by decide)⟩
        · exact ⟨fun _ => hit 4 ((rl_s1 c1).trans ((rl_s2 c2).trans ((rl_s3 c3).trans (ff_T (n := 1) (decide_eq_true c4))))) (by decide) hE g2 e2, fun c => absurd c (by decide)⟩
        · refine ⟨fun c => absurd rfl c, fun _ => (ct_X0_findEndowment hw hA ha hbs).mono (fun r3 g3 q3 => ?_)⟩
          rcases q3 with ⟨c5, rfl, e3⟩ | ⟨c5, rfl, e3⟩
          · exact ⟨fun c => absurd c (by decide), fun _ => hit 5 ((rl_s1 c1).trans ((rl_s2 c2).trans ((rl_s3 c3).trans ((rl_s4 c4).trans (ff_T (n := 0) (decide_eq_true c5)))))) (by decide) hE g3 e3⟩
          · have er : rl s E a b = 6 := (rl_s1 c1).trans ((rl_s2 c2).trans ((rl_s3 c3).trans ((rl_s4 c4).trans (rl_s5 c5))))
            have en : nw s E a b = false := by unfold nw der; rw [er]; simp
            exact ⟨fun _ => miss en g3 e3, fun c => absurd rfl c⟩
    · exact miss (by unfold nw; rw [Bool.not_eq_false] at hE; rw [hE]; rfl) g rfl
theorem lp_X0_fr5 {Γ : Gam} {P : Int32 → Mem → Prop} {s : St} {E : Rel} {g0 : Mem} {r : Nat} (hw : WF s) (h : Ae s E g0) (h15 : ∀ a b, a < s 0 → b < s 0 → (g0 15 (10 * a + b) = -9 ↔ E a b = false)) (hP : ∀ f g, Sc s E r g0 (s 0) 0 f g → Runs Γ 2 yX0_publish iX0_publish [.inr 12, .inl (nI (s 0)), .inl (nI r)] g (fun _ g1 => P (bi f) g1)) : ∀ n a f g, a + n = s 0 → Sc s E r g0 a 0 f g → AW Γ 4 iX0_findRound P 5 [some (.inr 12), some (.inr 6), some (.inl (nI r)), some (.inl (bi f)), some (.inl (nI a))] [] g := by
  intro n
  have hn := hw.n
  induction n with
  | zero =>
    intro a f g ha hS
    have e6 : g 6 0 = nI (s 0) := by rw [hS.1 6 (by decide)]; exact h.1.1
    refine sg_X0_findRound_5 _ _ _ ?_
    rw [show a = s 0 by omega] at hS ⊢
    rw [e6]
    exact ⟨fun _ => (hP f g hS).mono (fun _ g1 q => ⟨bz_bi f, q⟩), fun c => absurd (nI_le (by omega) (by omega)) c⟩
  | succ n ih =>
    intro a f g ha hS
    have e6 : g 6 0 = nI (s 0) := by rw [hS.1 6 (by decide)]; exact h.1.1
    refine sg_X0_findRound_5 _ _ _ ?_
    rw [e6]
    refine ⟨fun c => absurd c (nI_ge (by omega) (by omega)), fun _ => ?_⟩
    exact lp_X0_fr17 hw h h15 (by omega) (fun f1 g1 h1 => ih (a + 1) f1 g1 (by omega) h1) (s 0) 0 f g (by omega) hS
