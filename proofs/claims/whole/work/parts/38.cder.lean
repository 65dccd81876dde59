/-! The class's derivationSize. -/
/-- the class's queue -/
def Dc (s : St) (q : List Nat) (g : Mem) : Prop := Qok s q ∧ g 12 10 = nI q.length ∧ (∀ j, j < 100 → g 20 j = bi (decide (j ∈ q))) ∧ ∀ i c, q[i]? = some c → g 21 i = nI c
def frE (g g' : Mem) : Prop := (∀ k, k ≠ 12 → k ≠ 20 → k ≠ 21 → g' k = g k) ∧ ∀ j, j ≠ 10 → g' 12 j = g 12 j
theorem frE.trans {g1 g2 g3 : Mem} (h : frE g1 g2) (h' : frE g2 g3) : frE g1 g3 := ⟨fun k k1 k2 k3 => by rw [h'.1 k k1 k2 k3, h.1 k k1 k2 k3], fun j hj => by rw [h'.2 j hj, h.2 j hj]⟩
theorem AnaOk.frE {s : St} {g g' : Mem} (h : AnaOk s g) (f : frE g g') : AnaOk s g' := by
  unfold AnaOk at h ⊢
  rw [f.1 13 (by decide) (by decide) (by decide), f.1 15 (by decide) (by decide) (by decide), f.1 16 (by decide) (by decide) (by decide), f.1 17 (by decide) (by decide) (by decide), f.1 18 (by decide) (by decide) (by decide), f.1 19 (by decide) (by decide) (by decide), f.2 7 (by decide)]
  exact h
theorem AnOk.frE {s : St} {g g' : Mem} (h : AnOk s g) (f : frE g g') : AnOk s g' := by
  refine ⟨h.1.ext (fun k k1 k2 => f.1 k (by omega) (by omega) (by omega)), h.2.1.frE f, ?_⟩
  obtain ⟨E, e1, e2⟩ := h.2.2
  exact ⟨E, e1, fun a ha => by rw [f.1 23 (by decide) (by decide) (by decide)]; exact e2 a ha⟩
theorem sg_X0_enqueue_0 {Γ : Gam} {P : Int32 → Mem → Prop}  (a1 : Int32) {g : Mem} (h : ((a1 < 0 → P 0 g) ∧ (¬ (a1 < 0) → ((100 ≤ a1 → P 0 g) ∧ (¬ (100 ≤ a1) → (vp_in a1 100 ∧ ((¬ (g 20 a1.toNatClampNeg) = 0 → P 0 g) ∧ ((g 20 a1.toNatClampNeg) = 0 → (((g 12 10) < 100 → (vp_in a1 100 ∧ (vp_in (g 12 10) 100 ∧ P 0 (up (up (up g 20 a1.toNatClampNeg 1) 21 (g 12 10).toNatClampNeg a1) 12 10 ((g 12 10) + 1))))) ∧ (¬ ((g 12 10) < 100) → P 0 g)))))))))) : AW Γ 1 iX0_enqueue P 0 [some (.inr 12), some (.inl a1)] [] g :=
  (aw_iload_n dX0_enqueue_0 rfl (aw_if_lt 28 dX0_enqueue_1 (by decide) (fun c1 => (aw_vret rfl dX0_enqueue_28 (h.1 c1))) (fun c1 => (aw_iload_n dX0_enqueue_4 rfl (aw_bipush 100 dX0_enqueue_5 (by decide) (aw_icmp_ge 28 dX0_enqueue_7 (by decide) (fun c2 => (aw_vret rfl dX0_enqueue_28 ((h.2 c1).1 c2))) (fun c2 => (aw_aload_n dX0_enqueue_10 rfl (aw_getr 20 fkX0_37 fa_12_8 dX0_enqueue_11 (aw_iload_n dX0_enqueue_14 rfl (aw_iald aa_20 dX0_enqueue_15 ((h.2 c1).2 c2).1 (aw_if_ne 28 dX0_enqueue_16 (by decide) (fun c3 => (aw_vret rfl dX0_enqueue_28 (((h.2 c1).2 c2).2.1 c3))) (fun c3 => (aw_aload_n dX0_enqueue_19 rfl (aw_geti fkX0_43 fa_12_10 dX0_enqueue_20 (aw_bipush 100 dX0_enqueue_23 (by decide) (aw_icmp_lt 29 dX0_enqueue_25 (by decide) (fun c4 => (aw_aload_n dX0_enqueue_29 rfl (aw_getr 20 fkX0_37 fa_12_8 dX0_enqueue_30 (aw_iload_n dX0_enqueue_33 rfl (aw_iconst 1 dX0_enqueue_34 (by decide) (aw_iast aa_20 dX0_enqueue_35 ((((h.2 c1).2 c2).2.2 c3).1 c4).1 (aw_aload_n dX0_enqueue_36 rfl (aw_getr 21 fkX0_40 fa_12_9 dX0_enqueue_37 (aw_aload_n dX0_enqueue_40 rfl (aw_geti fkX0_43 fa_12_10 dX0_enqueue_41 (aw_iload_n dX0_enqueue_44 rfl (aw_iast aa_21 dX0_enqueue_45 ((((h.2 c1).2 c2).2.2 c3).1 c4).2.1 (aw_aload_n dX0_enqueue_46 rfl (aw_dup dX0_enqueue_47 (aw_geti fkX0_43 fa_12_10 dX0_enqueue_48 (aw_iconst 1 dX0_enqueue_51 (by decide) (aw_iadd dX0_enqueue_52 (aw_putf fpX0_43 fa_12_10 (vp_nar_int _) rfl dX0_enqueue_53 (aw_vret rfl dX0_enqueue_56 ((((h.2 c1).2 c2).2.2 c3).1 c4).2.2))))))))))))))))))) (fun c4 => (aw_vret rfl dX0_enqueue_28 ((((h.2 c1).2 c2).2.2 c3).2 c4))))))))))))))))))))
theorem ct_X0_enqueue {Γ : Gam} {s : St} {g : Mem} {q : List Nat} {c : Nat} {v : Int32} (h : Dc s q g) (hf : c < 100 → c / 10 < s 0 ∧ c % 10 < s 0 ∧ fnd s 0 (c / 10) (c % 10) = true) (hv : (c < 100 ∧ v = nI c) ∨ (c = 100 ∧ v = -1)) : Runs Γ 1 yX0_enqueue iX0_enqueue [.inr 12, .inl v] g (fun _ g' => Dc s (enq q c) g' ∧ frE g g') := by
  have h' := h
  obtain ⟨h1, h2, h3, h4⟩ := h
  have hl := h1.len
  have hQ : Qok s (enq q c) := h1.enq hf
  refine Runs.intro (by decide) rfl (Nat.le_of_ble_eq_true rfl) (sg_X0_enqueue_0 _ ?_)
  rcases hv with ⟨hc, rfl⟩ | ⟨hc, rfl⟩
  · rw [ix_nI (n := c) (by omega), h3 _ hc, h2, ix_nI (n := q.length) (by omega), nI_1, show (0 : Int32) = nI 0 from rfl, show (100 : Int32) = nI 100 from rfl, nI_ltI (by omega) (by decide), nI_leI (by decide) (by omega), nI_ltI (by omega) (by decide), show nI 0 = (0 : Int32) from rfl]
    refine ⟨fun d => absurd d (by omega), fun _ => ⟨fun d => absurd d (by omega), fun _ => ⟨vp_nI hc (by decide), fun d => ?_, fun d => ?_⟩⟩⟩
    · rw [bi_ne0, decide_eq_true_eq] at d
      have e : enq q c = q := by unfold enq; rw [if_pos (Or.inl d)]
      rw [e]
      exact ⟨h', fun _ _ _ _ => rfl, fun _ _ => rfl⟩
    · rw [bi_eq0, decide_eq_false_iff_not] at d
      have hlt := h1.lt (c := c) (by omega) d
      have e : enq q c = q ++ [c] := by unfold enq; rw [if_neg (fun z => z.elim d (by omega))]
      refine ⟨fun _ => ⟨vp_nI hc (by decide), vp_nI hlt (by decide), ⟨hQ, ?_, fun j hj => ?_, fun i c' hi => ?_⟩, fun k k1 k2 k3 => by rw [up_ne k1, up_ne k3, up_ne k2], fun j hj => by rw [up_nx hj, up_ne (by decide), up_ne (by decide)]⟩, fun z => absurd hlt z⟩
      · rw [up_at, e, List.length_append]; rfl
      · rw [up_ne (by decide), up_ne (by decide), e]
        by_cases ej : j = c
        · rw [ej, up_at]; simp [bi]
        · rw [up_nx ej, h3 j hj]; simp [ej]
      · rw [up_ne (by decide)]
        rw [e] at hi
        rcases Nat.lt_or_ge i q.length with g1 | g1
        · rw [List.getElem?_append_left g1] at hi
          rw [up_nx (by omega), up_ne (by decide)]
          exact h4 i c' hi
        · rw [List.getElem?_append_right g1] at hi
          have g2 : i - q.length < 1 := (List.getElem?_eq_some_iff.mp hi).1
          have g3 : i = q.length := by omega
          subst g3
          simp at hi
          rw [up_at, hi]
  · rw [enq_big (by omega)]
    exact ⟨fun _ => ⟨h', fun _ _ _ _ => rfl, fun _ _ => rfl⟩, fun d => absurd (by decide) d⟩
theorem enq_mem {q : List Nat} {c : Nat} (h : c < 100) : c ∈ enq q c := by
  unfold enq
  split
  · rename_i e; exact e.resolve_right (by omega)
  · simp
theorem enq_sub {q : List Nat} {c x : Nat} (h : x ∈ q) : x ∈ enq q c := by
  unfold enq
  split
  · exact h
  · simp [h]
theorem sg_X0_countDerived_0 {Γ : Gam} {P : Int32 → Mem → Prop}  (a1 : Int32) {g : Mem} (h : (Runs Γ 1 yX0_enqueue iX0_enqueue [.inr 12, .inl a1] (up (fil g 20 100 0) 12 10 0) (fun r1 g1 => AW Γ 2 iX0_countDerived P 22 [some (.inr 12), none, some (.inl 0), some (.inl 0)] [] g1))) : AW Γ 2 iX0_countDerived P 0 [some (.inr 12), some (.inl a1)] [] g :=
  (aw_aload_n dX0_countDerived_0 rfl (aw_getr 20 fkX0_37 fa_12_8 dX0_countDerived_1 (aw_iconst 0 dX0_countDerived_4 (by decide) (aw_callSv lkX0_46 ckJ7_fill_53178 (d := 1) (by decide) [.inr 20, .inl 0] rfl rfl (Nat.le_of_ble_eq_true rfl) dX0_countDerived_5 rfl (Runs.fn (ct_J7_fill aa_20 (by decide)) (aw_aload_n dX0_countDerived_8 rfl (aw_iconst 0 dX0_countDerived_9 (by decide) (aw_putf fpX0_43 fa_12_10 (vp_nar_int _) rfl dX0_countDerived_10 (aw_aload_n dX0_countDerived_13 rfl (aw_iload_n dX0_countDerived_14 rfl (aw_callVv lkX0_128 ckX0_enqueue ca_12 rfl (d := 1) (by decide) [.inl a1] rfl rfl (Nat.le_of_ble_eq_true rfl) dX0_countDerived_15 rfl (Runs.mono h (fun r1 g1 h1_ => (aw_iconst 0 dX0_countDerived_18 (by decide) (aw_istore_n [some (.inr 12), some (.inl a1), some (.inl 0)] dX0_countDerived_19 (by decide) rfl (aw_iconst 0 dX0_countDerived_20 (by decide) (aw_istore_n [some (.inr 12), some (.inl a1), some (.inl 0), some (.inl 0)] dX0_countDerived_21 (by decide) rfl (aw_mask [true, false, true, true] rfl h1_))))))))))))))))))
theorem sg_X0_countDerived_22 {Γ : Gam} {P : Int32 → Mem → Prop}  (a2 a3 : Int32) {g : Mem} (h : (((g 12 10) ≤ a3 → P a2 g) ∧ (¬ ((g 12 10) ≤ a3) → ((100 ≤ a3 → P a2 g) ∧ (¬ (100 ≤ a3) → (vp_in a3 100 ∧ (vp_in (g 21 a3.toNatClampNeg) 100 ∧ (((g 15 (g 21 a3.toNatClampNeg).toNatClampNeg) ≤ 0 → AW Γ 2 iX0_countDerived P 22 [some (.inr 12), none, some (.inl a2), some (.inl (a3 + 1))] [] g) ∧ (¬ ((g 15 (g 21 a3.toNatClampNeg).toNatClampNeg) ≤ 0) → (vp_in (g 21 a3.toNatClampNeg) 100 ∧ (Runs Γ 1 yX0_enqueue iX0_enqueue [.inr 12, .inl (g 18 (g 21 a3.toNatClampNeg).toNatClampNeg)] g (fun r1 g1 => (vp_in (g 21 a3.toNatClampNeg) 100 ∧ (Runs Γ 1 yX0_enqueue iX0_enqueue [.inr 12, .inl (g1 19 (g 21 a3.toNatClampNeg).toNatClampNeg)] g1 (fun r2 g2 => AW Γ 2 iX0_countDerived P 22 [some (.inr 12), none, some (.inl (a2 + 1)), some (.inl (a3 + 1))] [] g2))))))))))))))) : AW Γ 2 iX0_countDerived P 22 [some (.inr 12), none, some (.inl a2), some (.inl a3)] [] g :=
  (aw_iload_n dX0_countDerived_22 rfl (aw_aload_n dX0_countDerived_23 rfl (aw_geti fkX0_43 fa_12_10 dX0_countDerived_24 (aw_icmp_ge 85 dX0_countDerived_27 (by decide) (fun c1 => (aw_iload_n dX0_countDerived_85 rfl (aw_iret rfl (vp_nar_int _) dX0_countDerived_86 (h.1 c1)))) (fun c1 => (aw_iload_n dX0_countDerived_30 rfl (aw_bipush 100 dX0_countDerived_31 (by decide) (aw_icmp_ge 85 dX0_countDerived_33 (by decide) (fun c2 => (aw_iload_n dX0_countDerived_85 rfl (aw_iret rfl (vp_nar_int _) dX0_countDerived_86 ((h.2 c1).1 c2)))) (fun c2 => (aw_aload_n dX0_countDerived_36 rfl (aw_getr 21 fkX0_40 fa_12_9 dX0_countDerived_37 (aw_iload_n dX0_countDerived_40 rfl (aw_iald aa_21 dX0_countDerived_41 ((h.2 c1).2 c2).1 (aw_istore [some (.inr 12), none, some (.inl a2), some (.inl a3), some (.inl (g 21 a3.toNatClampNeg))] dX0_countDerived_42 (by decide) rfl (aw_aload_n dX0_countDerived_44 rfl (aw_getr 15 fkX0_18 fa_12_2 dX0_countDerived_45 (aw_iload dX0_countDerived_48 rfl (aw_iald aa_15 dX0_countDerived_50 ((h.2 c1).2 c2).2.1 (aw_if_le 79 dX0_countDerived_51 (by decide) (fun c3 => (aw_iinc (a3 + 1) [some (.inr 12), none, some (.inl a2), some (.inl (a3 + 1)), some (.inl (g 21 a3.toNatClampNeg))] dX0_countDerived_79 rfl (by rfl) (by decide) rfl (aw_goto 22 dX0_countDerived_82 (by decide) (aw_mask [true, false, true, true] rfl (((h.2 c1).2 c2).2.2.1 c3))))) (fun c3 => (aw_iinc (a2 + 1) [some (.inr 12), none, some (.inl (a2 + 1)), some (.inl a3), some (.inl (g 21 a3.toNatClampNeg))] dX0_countDerived_54 rfl (by rfl) (by decide) rfl (aw_aload_n dX0_countDerived_57 rfl (aw_aload_n dX0_countDerived_58 rfl (aw_getr 18 fkX0_27 fa_12_5 dX0_countDerived_59 (aw_iload dX0_countDerived_62 rfl (aw_iald aa_18 dX0_countDerived_64 (((h.2 c1).2 c2).2.2.2 c3).1 (aw_callVv lkX0_128 ckX0_enqueue ca_12 rfl (d := 1) (by decide) [.inl (g 18 (g 21 a3.toNatClampNeg).toNatClampNeg)] rfl rfl (Nat.le_of_ble_eq_true rfl) dX0_countDerived_65 rfl (Runs.mono (((h.2 c1).2 c2).2.2.2 c3).2 (fun r1 g1 h1_ => (aw_aload_n dX0_countDerived_68 rfl (aw_aload_n dX0_countDerived_69 rfl (aw_getr 19 fkX0_30 fa_12_6 dX0_countDerived_70 (aw_iload dX0_countDerived_73 rfl (aw_iald aa_19 dX0_countDerived_75 h1_.1 (aw_callVv lkX0_128 ckX0_enqueue ca_12 rfl (d := 1) (by decide) [.inl (g1 19 (g 21 a3.toNatClampNeg).toNatClampNeg)] rfl rfl (Nat.le_of_ble_eq_true rfl) dX0_countDerived_76 rfl (Runs.mono h1_.2 (fun r2 g2 h2_ => (aw_iinc (a3 + 1) [some (.inr 12), none, some (.inl (a2 + 1)), some (.inl (a3 + 1)), some (.inl (g 21 a3.toNatClampNeg))] dX0_countDerived_79 rfl (by rfl) (by decide) rfl (aw_goto 22 dX0_countDerived_82 (by decide) (aw_mask [true, false, true, true] rfl h2_))))))))))))))))))))))))))))))))))))))))
theorem lp_X0_cd22 {Γ : Gam} {P : Int32 → Mem → Prop} {s : St} {g : Mem} {N : Nat} (hw : WF s) (hA : AnaOk s g) (hP : ∀ g', frE g g' → P (nI N) g') : ∀ f k q n g', k + f = 101 → frE g g' → Dc s q g' → bfs s f k q n = N → AW Γ 2 iX0_countDerived P 22 [some (.inr 12), none, some (.inl (nI n)), some (.inl (nI k))] [] g' := by
  intro f
  have hn := hw.n
  have exit : ∀ k q n g', q.length ≤ k → k ≤ 101 → frE g g' → Dc s q g' → n = N → AW Γ 2 iX0_countDerived P 22 [some (.inr 12), none, some (.inl (nI n)), some (.inl (nI k))] [] g' := by
    intro k q n g' h1 h2 hf hD e
    refine sg_X0_countDerived_22 _ _ ?_
    have hl := hD.1.len
    rw [hD.2.1, e]
    exact ⟨fun _ => hP g' hf, fun c => absurd (nI_le h1 (by omega)) c⟩
  induction f with
  | zero =>
    intro k q n g' hk hf hD e
    have hl := hD.1.len
    rw [bfs] at e
    exact exit k q n g' (by omega) (by omega) hf hD e
  | succ f ih =>
    intro k q n g' hk hf hD e
    have hl := hD.1.len
    rw [bfs] at e
    cases hc : q[k]? with
    | none =>
      rw [hc] at e
      exact exit k q n g' (List.getElem?_eq_none_iff.mp hc) (by omega) hf hD e
    | some c =>
      rw [hc] at e
      dsimp only at e
      have hkl : k < q.length := (List.getElem?_eq_some_iff.mp hc).1
      obtain ⟨c1, c2, c3⟩ := hD.1.2 c (List.mem_of_getElem? hc)
      have hA1 := hA.frE hf
      have e21 := hD.2.2.2 k c hc
      have ec : 10 * (c / 10) + c % 10 = c := by omega
      have hc100 : c < 100 := by omega
      obtain ⟨m1, -, -, m4⟩ := hA1.2.1 _ _ c1 c2
      rw [ec] at m1 m4
      have eR : g' 15 c = nI (rnd s 0 (c / 10) (c % 10)) := by
        rw [m1]
        exact (rnd_yes c3).2.2.2
      have hrl : rnd s 0 (c / 10) (c % 10) ≤ 100 := Nat.le_trans (rnd_yes c3).1 (LR_le hw 0)
      refine sg_X0_countDerived_22 _ _ ?_
      rw [hD.2.1, ix_nI (n := k) (by omega), e21, ix_nI (n := c) (by omega), eR, show (0 : Int32) = nI 0 from rfl, nI_leI (a := rnd s 0 (c / 10) (c % 10)) (b := 0) (by omega) (by decide), nI_1, nI_1]
      refine ⟨fun c => absurd c (nI_ge (by omega) (by omega)), fun _ => ⟨fun c => absurd c (nI_ge (show k < 100 by omega) (by decide)), fun _ => ⟨vp_nI (by omega) (by decide), vp_nI hc100 (by decide), fun c0 => ?_, fun c0 => ⟨vp_nI hc100 (by decide), ?_⟩⟩⟩⟩
      · rw [if_pos (by omega)] at e
        exact ih (k + 1) q n g' (by omega) hf hD e
      · have h0 : rnd s 0 (c / 10) (c % 10) ≠ 0 := by omega
        rw [if_neg h0] at e
        obtain ⟨w1, w2, w3⟩ := m4 c3 h0
        obtain ⟨u1, u2, u3⟩ := hD.1.prem hw c1 c2 c3 h0
        have f1 : pm1 s (c / 10) (c % 10) < 100 → _ := fun _ => u1.2 (pm1 s (c / 10) (c % 10)) (enq_sub (enq_mem u2))
        rw [w1]
        refine (ct_X0_enqueue hD f1 (Or.inl ⟨u2, rfl⟩)).mono (fun _ g1 y1 => ⟨vp_nI hc100 (by decide), ?_⟩)
        have e19 : g1 19 c = g' 19 c := by rw [y1.2.1 19 (by decide) (by decide) (by decide)]
        rw [e19]
        have f2 : pm2 s (c / 10) (c % 10) < 100 → _ := fun z => u1.2 (pm2 s (c / 10) (c % 10)) (enq_mem z)
        refine (ct_X0_enqueue y1.1 f2 ?_).mono (fun _ g2 y2 => ih (k + 1) _ (n + 1) g2 (by omega) ((hf.trans y1.2).trans y2.2) y2.1 e)
        by_cases z : pm2 s (c / 10) (c % 10) = 100
        · exact Or.inr ⟨z, w2 z⟩
        · exact Or.inl ⟨by omega, w3 z⟩
theorem ct_X0_countDerived {Γ : Gam} {s : St} {g : Mem} {x y : Nat} (hw : WF s) (hA : AnaOk s g) (hx : x < s 0) (hy : y < s 0) (hf : fnd s 0 x y = true) : Runs Γ 2 yX0_countDerived iX0_countDerived [.inr 12, .inl (nI (10 * x + y))] g (fun r g' => r = nI (derS s x y) ∧ frE g g') := by
  have hn := hw.n
  refine Runs.intro (by decide) rfl (Nat.le_of_ble_eq_true rfl) (sg_X0_countDerived_0 _ ?_)
  have hD0 : Dc s [] (up (fil g 20 100 0) 12 10 0) := ⟨Qok_nil _, up_at _ _ _ _, fun j hj => by rw [up_ne (by decide), fil_at hj]; rfl, fun i c hc => by cases hc⟩
  have fr0 : frE g (up (fil g 20 100 0) 12 10 0) := ⟨fun k k1 k2 k3 => by rw [up_ne k1, fil_ne k2], fun j hj => by rw [up_nx hj, fil_ne (by decide)]⟩
  have e1 : (10 * x + y) / 10 = x := by omega
  have e2 : (10 * x + y) % 10 = y := by omega
  refine (ct_X0_enqueue (c := 10 * x + y) hD0 (fun _ => by rw [e1, e2]; exact ⟨hx, hy, hf⟩) (Or.inl ⟨by omega, rfl⟩)).mono (fun _ g1 y1 => ?_)
  have e : enq [] (10 * x + y) = [10 * x + y] := by unfold enq; rw [if_neg (fun z => z.elim (fun z => by cases z) (by omega))]; rfl
  rw [e] at y1
  exact lp_X0_cd22 (g := g) hw hA (fun g2 z => ⟨rfl, z⟩) 101 0 _ 0 g1 rfl (fr0.trans y1.2) y1.1 rfl
theorem sg_X6_derivationSize_0 {Γ : Gam} {P : Int32 → Mem → Prop}  (s : St) (a1 a2 : Int32) {g : Mem} (h : (CW 34 s g ∧ ((¬ (bi (inR (s 0) a1 && inR (s 0) a2)) = 0 → (Runs Γ 6 yX6_refreshAnalysis iX6_refreshAnalysis [.inr 0] g (fun r1 g1 => (vp_in a1 10 ∧ ((¬ (bi (hasB (g1 13 a1.toNatClampNeg) a2)) = 0 → (Runs Γ 2 yX0_countDerived iX0_countDerived [.inr 12, .inl (a1 * 10 + a2)] g1 (fun r2 g2 => P r2 g2))) ∧ ((bi (hasB (g1 13 a1.toNatClampNeg) a2)) = 0 → P (-9) g1)))))) ∧ ((bi (inR (s 0) a1 && inR (s 0) a2)) = 0 → P (-1) g)))) : AW Γ 7 iX6_derivationSize P 0 [some (.inr 0), some (.inl a1), some (.inl a2)] [] g :=
  (aw_aload_n dX6_derivationSize_0 rfl (aw_getr 34 fkX6_19 fa_0_1 dX6_derivationSize_1 (aw_iload_n dX6_derivationSize_4 rfl (aw_iload_n dX6_derivationSize_5 rfl (aw_callVi lkX6_120 ckX4_hasBoth (cs_ isSt_34) rfl (d := 2) (by decide) [.inl a1, .inl a2] rfl rfl (Nat.le_of_ble_eq_true rfl) dX6_derivationSize_6 rfl (Runs.fn ((ct_X4_hasBoth isSt_34) h.1) (aw_if_ne 14 dX6_derivationSize_9 (by decide) (fun c1 => (aw_aload_n dX6_derivationSize_14 rfl (aw_callVv lkX6_123 ckX6_refreshAnalysis ca_0 rfl (d := 6) (by decide) [] rfl rfl (Nat.le_of_ble_eq_true rfl) dX6_derivationSize_15 rfl (Runs.mono (h.2.1 c1) (fun r1 g1 h1_ => (aw_aload_n dX6_derivationSize_18 rfl (aw_getr 12 fkX6_43 fa_0_5 dX6_derivationSize_19 (aw_getr 13 fkX6_126 fa_12_0 dX6_derivationSize_22 (aw_iload_n dX6_derivationSize_25 rfl (aw_iald aa_13 dX6_derivationSize_26 h1_.1 (aw_iload_n dX6_derivationSize_27 rfl (aw_callSi lkX6_129 ckX6_contains (d := 1) (by decide) [.inl (g1 13 a1.toNatClampNeg), .inl a2] rfl rfl (Nat.le_of_ble_eq_true rfl) dX6_derivationSize_28 rfl (Runs.fn ct_X6_contains (aw_if_ne 37 dX6_derivationSize_31 (by decide) (fun c2 => (aw_aload_n dX6_derivationSize_37 rfl (aw_getr 12 fkX6_43 fa_0_5 dX6_derivationSize_38 (aw_iload_n dX6_derivationSize_41 rfl (aw_iload_n dX6_derivationSize_42 rfl (aw_callSi lkX6_135 ckX6_pair (d := 1) (by decide) [.inl a1, .inl a2] rfl rfl (Nat.le_of_ble_eq_true rfl) dX6_derivationSize_43 rfl (Runs.fn ct_X6_pair (aw_callVi lkX6_145 ckX0_countDerived ca_12 rfl (d := 2) (by decide) [.inl (a1 * 10 + a2)] rfl rfl (Nat.le_of_ble_eq_true rfl) dX6_derivationSize_46 rfl (Runs.mono (h1_.2.1 c2) (fun r2 g2 h2_ => (aw_iret rfl (vp_nar_int _) dX6_derivationSize_49 h2_))))))))))) (fun c2 => (aw_bipush (-9) dX6_derivationSize_34 (by decide) (aw_iret rfl (vp_nar_int _) dX6_derivationSize_36 (h1_.2.2 c2)))))))))))))))))) (fun c1 => (aw_iconst (-1) dX6_derivationSize_12 (by decide) (aw_iret rfl (vp_nar_int _) dX6_derivationSize_13 (h.2.2 c1)))))))))))
theorem oc_dsize {Γ : Gam} {a : Ab} {g : Mem} {x y : Int32} (h : CI a g) (hw : WA a) : Runs Γ 7 yX6_derivationSize iX6_derivationSize [.inr 0, .inl x, .inl y] g (OpC (sp_dsize a x y, a) g) := by
  have hn := hw.1.n
  unfold sp_dsize
  refine Runs.intro (by decide) rfl (Nat.le_of_ble_eq_true rfl) (sg_X6_derivationSize_0 a.1 x y ⟨h.s hw, fun c1 => ?_, fun c1 => ?_⟩)
  · rw [bi_ne0] at c1
    rw [if_pos c1]
    rw [Bool.and_eq_true] at c1
    obtain ⟨x, hx, rfl⟩ := inR_ob c1.1
    obtain ⟨y, hy, rfl⟩ := inR_ob c1.2
    rw [ix_nI (n := x) (by omega), ix_nI (n := y) (by omega)]
    refine (ct_X6_refresh (h.s hw) h.2.2.2).mono (fun _ g1 q => ?_)
    obtain ⟨q1, q2, q3, q4⟩ := q
    rw [q2.2.1.1 x hx, has_msk hn hy, pairc]
    refine ⟨vp_nI (by omega) (by decide), fun c => ?_, fun c => ?_⟩
    · have hf := bi_ne0.mp c
      rw [if_pos hf]
      refine (ct_X0_countDerived hw.1 q2.2.1 hx hy hf).mono (fun r g2 z => ?_)
      obtain ⟨rfl, z2⟩ := z
      exact OpC.an h (by rw [z2.1 0 (by decide) (by decide) (by decide)]; exact q1) (q2.frE z2) (fun k hk => by rw [z2.1 k (by omega) (by omega) (by omega), q3 k (by omega)])
    · rw [if_neg (by rw [bi_eq0.mp c]; decide)]
      exact OpC.an h q1 q2 (fun k hk => q3 k (by omega))
  · rw [bi_eq0] at c1; rw [if_neg (by simp [c1])]; exact OpC.same h
