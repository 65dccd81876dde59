/-! Derivations. -/
def enq (q : List Nat) (c : Nat) : List Nat := if c ∈ q ∨ 100 ≤ c then q else q ++ [c]
def premq (s : St) (q : List Nat) (a b : Nat) : List Nat := enq (enq q (pm1 s a b)) (pm2 s a b)
def bfs (s : St) : Nat → Nat → List Nat → Nat → Nat
  | 0, _, _, n => n
  | f + 1, k, q, n => match q[k]? with
    | none => n
    | some c => if rnd s 0 (c / 10) (c % 10) = 0 then bfs s f (k + 1) q n else bfs s f (k + 1) (premq s q (c / 10) (c % 10)) (n + 1)
def derS (s : St) (a b : Nat) : Nat := bfs s 101 0 [10 * a + b] 0
theorem cc_eq {p q : Nat → Bool} : ∀ {k : Nat}, (∀ j, j < k → p j = q j) → cc p k = cc q k
  | 0, _ => rfl
  | k + 1, h => by rw [cc, cc, cc_eq (fun j hj => h j (by omega)), h k (by omega)]
theorem cc_add {p q : Nat → Bool} {c : Nat} (hp : p c = false) (hq : q c = true) (ho : ∀ j, j ≠ c → q j = p j) : ∀ k, c < k → cc q k = cc p k + 1
  | 0, h => by omega
  | k + 1, h => by
    rw [cc, cc]
    rcases Nat.lt_or_ge c k with g | g
    · rw [cc_add hp hq ho k g, ho k (by omega)]; omega
    · have e : c = k := by omega
      subst e
      rw [cc_eq (p := q) (q := p) (fun j hj => ho j (by omega)), hp, hq]
      simp
/-- the queue: its places are found references, each once -/
def Qok (s : St) (q : List Nat) : Prop := q.length = cc (fun j => decide (j ∈ q)) 100 ∧ ∀ c, c ∈ q → c / 10 < s 0 ∧ c % 10 < s 0 ∧ fnd s 0 (c / 10) (c % 10) = true
theorem Qok.len {s : St} {q : List Nat} (h : Qok s q) : q.length ≤ 100 := by rw [h.1]; exact cc_le _ _
theorem Qok.lt {s : St} {q : List Nat} (h : Qok s q) {c : Nat} (hc : c < 100) (hn : c ∉ q) : q.length < 100 := by
  rw [h.1]
  have := cc_lt (p := fun j => decide (j ∈ q)) (q := fun _ => true) (fun _ _ => rfl) (i := c) (by simpa using hn) rfl 100 hc
  exact Nat.lt_of_lt_of_le this (cc_le _ _)
theorem Qok.enq {s : St} {q : List Nat} (h : Qok s q) {c : Nat} (hf : c < 100 → c / 10 < s 0 ∧ c % 10 < s 0 ∧ fnd s 0 (c / 10) (c % 10) = true) : Qok s (enq q c) := by
  show Qok s (if c ∈ q ∨ 100 ≤ c then q else q ++ [c])
  split
  · exact h
  · rename_i hc
    have h1 : c ∉ q := fun e => hc (Or.inl e)
    have h2 : c < 100 := Nat.lt_of_not_le (fun e => hc (Or.inr e))
    refine ⟨?_, fun d hd => ?_⟩
    · rw [List.length_append, List.length_singleton, h.1]
      exact (cc_add (c := c) (by simpa using h1) (by simp) (fun j hj => by simp [hj]) 100 h2).symm
    · rcases List.mem_append.mp hd with e | e
      · exact h.2 d e
      · rw [List.mem_singleton.mp e]; exact hf h2
/-- what is known of a cause -/
theorem cause {s : St} (hw : WF s) {a b : Nat} (ha : a < s 0) (hb : b < s 0) (hf : fnd s 0 a b = true) (h0 : rnd s 0 a b ≠ 0) : (∀ x y, bef s a b x y = true → x < s 0 ∧ y < s 0 ∧ fnd s 0 x y = true) ∧ qq s (bef s a b) (rl s (bef s a b) a b) a b (pt s (bef s a b) (rl s (bef s a b) a b) a b) = true ∧ pt s (bef s a b) (rl s (bef s a b) a b) a b < s 0 ∧ 1 ≤ rl s (bef s a b) a b ∧ rl s (bef s a b) a b < 6 := by
  rcases rd_cases hw ha hb with ⟨e1, e2⟩ | ⟨e1, e2, e3⟩ | ⟨e1, e2, e3, e4, e5, e6, e7, e8⟩
  · rw [hf] at e1; cases e1
  · exact absurd e2 h0
  · refine ⟨fun x y h => ?_, ff_yes _ (s 0) 0 (by unfold pt at e7; omega), e7, (rl_lt _ _ _ _).1, e6⟩
    have h1 := it_in hw _ x y h
    exact ⟨h1.1, h1.2, fnd_all hw h⟩
/-- what the premises are, by the rule -/
def Cz (s : St) (a b x : Nat) : Prop :=
  (rl s (bef s a b) a b = 1 ∧ bef s a b x a = true ∧ (x = b ∨ bef s a b x b = true) ∧ pm1 s a b = 10 * x + a ∧ pm2 s a b = if x = b then 100 else 10 * x + b) ∨
  (rl s (bef s a b) a b = 2 ∧ bef s a b a x = true ∧ bef s a b x b = true ∧ pm1 s a b = 10 * a + x ∧ pm2 s a b = 10 * x + b) ∨
  (rl s (bef s a b) a b = 3 ∧ bef s a b a x = true ∧ s (1 + x) = 1 ∧ (∃ k, k < s 0 ∧ ff (qk s (bef s a b) a (s (11 + x))) 0 (s 0) = k ∧ bef s a b a k = true ∧ pm2 s a b = 10 * a + k) ∧ pm1 s a b = 10 * a + x) ∨
  (rl s (bef s a b) a b = 4 ∧ bef s a b a x = true ∧ pm1 s a b = 10 * a + x ∧ pm2 s a b = 100) ∨
  (rl s (bef s a b) a b = 5 ∧ bef s a b x b = true ∧ (∃ u, u < s 0 ∧ ff (qu s (bef s a b) x) 0 (s 0) = u ∧ bef s a b u x = true ∧ pm2 s a b = 10 * u + x) ∧ pm1 s a b = 10 * x + b)
theorem premises {s : St} (hw : WF s) {a b : Nat} (ha : a < s 0) (hb : b < s 0) (hf : fnd s 0 a b = true) (h0 : rnd s 0 a b ≠ 0) : Cz s a b (pt s (bef s a b) (rl s (bef s a b) a b) a b) := by
  obtain ⟨hE, hq, hp, r1, r2⟩ := cause hw ha hb hf h0
  unfold Cz
  rcases (show rl s (bef s a b) a b = 1 ∨ rl s (bef s a b) a b = 2 ∨ rl s (bef s a b) a b = 3 ∨ rl s (bef s a b) a b = 4 ∨ rl s (bef s a b) a b = 5 by omega) with hr | hr | hr | hr | hr
  · left
    have e1 : pm1 s a b = 10 * pt s (bef s a b) 1 a b + a := by simp [pm1, hr]
    have e2 : pm2 s a b = if pt s (bef s a b) 1 a b = b then 100 else 10 * pt s (bef s a b) 1 a b + b := by simp [pm2, hr]
    rw [hr] at hq ⊢
    simp only [qq, if_true, Bool.and_eq_true, q1, Bool.or_eq_true, decide_eq_true_eq] at hq
    exact ⟨rfl, hq.2.2.1, hq.2.2.2, e1, e2⟩
  · right; left
    have e1 : pm1 s a b = 10 * a + pt s (bef s a b) 2 a b := by simp [pm1, hr]
    have e2 : pm2 s a b = 10 * pt s (bef s a b) 2 a b + b := by simp [pm2, hr]
    rw [hr] at hq ⊢
    have hq2 : (dz s a 2 && q2 s (bef s a b) a b (pt s (bef s a b) 2 a b)) = true := hq
    simp only [Bool.and_eq_true, q2] at hq2
    exact ⟨rfl, hq2.2.2.1, hq2.2.2.2, e1, e2⟩
  · right; right; left
    have e1 : pm1 s a b = 10 * a + pt s (bef s a b) 3 a b := by simp [pm1, hr]
    have e2 : pm2 s a b = 10 * a + ff (qk s (bef s a b) a (s (11 + pt s (bef s a b) 3 a b))) 0 (s 0) := by simp [pm2, hr]
    rw [hr] at hq ⊢
    have hq2 : (dz s a 2 && q3 s (bef s a b) a b (pt s (bef s a b) 3 a b)) = true := hq
    simp only [Bool.and_eq_true, q3, decide_eq_true_eq, kz] at hq2
    have hk := ff_yes _ (s 0) 0 (by rw [Nat.zero_add]; exact hq2.2.2.2.2)
    simp only [qk, Bool.and_eq_true] at hk
    exact ⟨rfl, hq2.2.2.2.1, hq2.2.1.2, ⟨_, hq2.2.2.2.2, rfl, hk.2.2, e2⟩, e1⟩
  · right; right; right; left
    have e1 : pm1 s a b = 10 * a + pt s (bef s a b) 4 a b := by simp [pm1, hr]
    have e2 : pm2 s a b = 100 := by simp [pm2, hr]
    rw [hr] at hq ⊢
    have hq2 : (dz s a 2 && q4 s (bef s a b) a b (pt s (bef s a b) 4 a b)) = true := hq
    simp only [Bool.and_eq_true, q4] at hq2
    exact ⟨rfl, hq2.2.2.2, e1, e2⟩
  · right; right; right; right
    have e1 : pm1 s a b = 10 * pt s (bef s a b) 5 a b + b := by simp [pm1, hr]
    have e2 : pm2 s a b = 10 * ff (qu s (bef s a b) (pt s (bef s a b) 5 a b)) 0 (s 0) + pt s (bef s a b) 5 a b := by simp [pm2, hr]
    rw [hr] at hq ⊢
    have hq2 : q5 s (bef s a b) a b (pt s (bef s a b) 5 a b) = true := hq
    simp only [Bool.and_eq_true, q5, decide_eq_true_eq] at hq2
    have hk := ff_yes _ (s 0) 0 (by rw [Nat.zero_add]; exact hq2.2.2.2)
    simp only [qu, Bool.and_eq_true] at hk
    exact ⟨rfl, hq2.2.2.1, ⟨_, hq2.2.2.2, rfl, hk.2, e2⟩, e1⟩
theorem Qok.prem {s : St} (hw : WF s) {q : List Nat} (h : Qok s q) {a b : Nat} (ha : a < s 0) (hb : b < s 0) (hf : fnd s 0 a b = true) (h0 : rnd s 0 a b ≠ 0) : Qok s (premq s q a b) ∧ pm1 s a b < 100 ∧ pm2 s a b ≤ 100 := by
  have hn := hw.n
  obtain ⟨hE, -, hp, -, -⟩ := cause hw ha hb hf h0
  have key : ∀ x y, bef s a b x y = true → ((10 * x + y) / 10 < s 0 ∧ (10 * x + y) % 10 < s 0 ∧ fnd s 0 ((10 * x + y) / 10) ((10 * x + y) % 10) = true) ∧ 10 * x + y < 100 := by
    intro x y h
    obtain ⟨g1, g2, g3⟩ := hE x y h
    have e1 : (10 * x + y) / 10 = x := by omega
    have e2 : (10 * x + y) % 10 = y := by omega
    rw [e1, e2]
    exact ⟨⟨g1, g2, g3⟩, by omega⟩
  have z := premises hw ha hb hf h0
  generalize pt s (bef s a b) (rl s (bef s a b) a b) a b = x at z hp
  unfold premq
  rcases z with ⟨-, z1, z2, z3, z4⟩ | ⟨-, z1, z2, z3, z4⟩ | ⟨-, z1, -, ⟨k, k1, -, k2, k3⟩, z3⟩ | ⟨-, z1, z3, z4⟩ | ⟨-, z1, ⟨k, k1, -, k2, k3⟩, z3⟩
  · rw [z3, z4]
    refine ⟨(h.enq (fun _ => (key _ _ z1).1)).enq (fun hc => ?_), (key _ _ z1).2, ?_⟩
    · split at hc
      · omega
      · rename_i hx
        rw [if_neg hx]
        exact (key _ _ (z2.resolve_left hx)).1
    · split
      · omega
      · rename_i hx
        have := (key _ _ (z2.resolve_left hx)).2
        omega
  · rw [z3, z4]
    exact ⟨(h.enq (fun _ => (key _ _ z1).1)).enq (fun _ => (key _ _ z2).1), (key _ _ z1).2, Nat.le_of_lt (key _ _ z2).2⟩
  · rw [z3, k3]
    exact ⟨(h.enq (fun _ => (key _ _ z1).1)).enq (fun _ => (key _ _ k2).1), (key _ _ z1).2, Nat.le_of_lt (key _ _ k2).2⟩
  · rw [z3, z4]
    exact ⟨(h.enq (fun _ => (key _ _ z1).1)).enq (fun hc => by omega), (key _ _ z1).2, Nat.le_refl _⟩
  · rw [z3, k3]
    exact ⟨(h.enq (fun _ => (key _ _ z1).1)).enq (fun _ => (key _ _ k2).1), (key _ _ z1).2, Nat.le_of_lt (key _ _ k2).2⟩
theorem enq_big {q : List Nat} {c : Nat} (h : 100 ≤ c) : enq q c = q := by unfold enq; rw [if_pos (Or.inr h)]
/-- the reference's queue -/
def Dm (s : St) (q : List Nat) (g : Mem) : Prop := Qok s q ∧ g 26 16 = nI q.length ∧ (∀ j, j < 100 → g 32 j = bi (decide (j ∈ q))) ∧ ∀ i c, q[i]? = some c → g 33 i = nI c
def frD (g g' : Mem) : Prop := (∀ k, k ≠ 26 → k ≠ 32 → k ≠ 33 → g' k = g k) ∧ ∀ j, j ≠ 16 → g' 26 j = g 26 j
theorem frD.trans {g1 g2 g3 : Mem} (h : frD g1 g2) (h' : frD g2 g3) : frD g1 g3 := ⟨fun k k1 k2 k3 => by rw [h'.1 k k1 k2 k3, h.1 k k1 k2 k3], fun j hj => by rw [h'.2 j hj, h.2 j hj]⟩
theorem sg_X7_derive_0 {Γ : Gam} {P : Int32 → Mem → Prop}  (a1 a2 : Int32) {g : Mem} (h : (vp_in ((10 * a1) + a2) 100 ∧ ((¬ (g 32 ((10 * a1) + a2).toNatClampNeg) = 0 → P 0 g) ∧ ((g 32 ((10 * a1) + a2).toNatClampNeg) = 0 → (vp_in ((10 * a1) + a2) 100 ∧ (vp_in (g 26 16) 100 ∧ P 0 (up (up (up g 32 ((10 * a1) + a2).toNatClampNeg 1) 33 (g 26 16).toNatClampNeg ((10 * a1) + a2)) 26 16 ((g 26 16) + 1)))))))) : AW Γ 1 iX7_derive P 0 [some (.inr 26), some (.inl a1), some (.inl a2)] [] g :=
  (aw_bipush 10 dX7_derive_0 (by decide) (aw_iload_n dX7_derive_2 rfl (aw_imul dX7_derive_3 (aw_iload_n dX7_derive_4 rfl (aw_iadd dX7_derive_5 (aw_istore_n [some (.inr 26), some (.inl a1), some (.inl a2), some (.inl ((10 * a1) + a2))] dX7_derive_6 (by decide) rfl (aw_aload_n dX7_derive_7 rfl (aw_getr 32 fkX7_25 fa_26_14 dX7_derive_8 (aw_iload_n dX7_derive_11 rfl (aw_zald aa_32 dX7_derive_12 h.1 (aw_if_ne 43 dX7_derive_13 (by decide) (fun c1 => (aw_vret rfl dX7_derive_43 (h.2.1 c1))) (fun c1 => (aw_aload_n dX7_derive_16 rfl (aw_getr 32 fkX7_25 fa_26_14 dX7_derive_17 (aw_iload_n dX7_derive_20 rfl (aw_iconst 1 dX7_derive_21 (by decide) (aw_zast aa_32 dX7_derive_22 (h.2.2 c1).1 (by decide) (aw_aload_n dX7_derive_23 rfl (aw_getr 33 fkX7_29 fa_26_15 dX7_derive_24 (aw_aload_n dX7_derive_27 rfl (aw_geti fkX7_172 fa_26_16 dX7_derive_28 (aw_iload_n dX7_derive_31 rfl (aw_iast aa_33 dX7_derive_32 (h.2.2 c1).2.1 (aw_aload_n dX7_derive_33 rfl (aw_dup dX7_derive_34 (aw_geti fkX7_172 fa_26_16 dX7_derive_35 (aw_iconst 1 dX7_derive_38 (by decide) (aw_iadd dX7_derive_39 (aw_putf fpX7_172 fa_26_16 (vp_nar_int _) rfl dX7_derive_40 (aw_vret rfl dX7_derive_43 (h.2.2 c1).2.2))))))))))))))))))))))))))))))
theorem ct_X7_derive {Γ : Gam} {s : St} {g : Mem} {q : List Nat} {x y : Nat} (h : Dm s q g) (hx : x < 10) (hy : y < 10) (hf : x < s 0 ∧ y < s 0 ∧ fnd s 0 x y = true) : Runs Γ 1 yX7_derive iX7_derive [.inr 26, .inl (nI x), .inl (nI y)] g (fun _ g' => Dm s (enq q (10 * x + y)) g' ∧ frD g g') := by
  obtain ⟨h1, h2, h3, h4⟩ := h
  have hl := h1.len
  have e1 : (10 * x + y) / 10 = x := by omega
  have e2 : (10 * x + y) % 10 = y := by omega
  have hQ : Qok s (enq q (10 * x + y)) := h1.enq (fun _ => by rw [e1, e2]; exact hf)
  refine Runs.intro (by decide) rfl (Nat.le_of_ble_eq_true rfl) (sg_X7_derive_0 _ _ ?_)
  rw [pair_nI', ix_nI (n := 10 * x + y) (by omega), h3 _ (by omega), h2, ix_nI (by omega), nI_1]
  refine ⟨vp_nI (by omega) (by decide), fun c => ?_, fun c => ?_⟩
  · rw [bi_ne0, decide_eq_true_eq] at c
    have e : enq q (10 * x + y) = q := by unfold enq; rw [if_pos (Or.inl c)]
    rw [e]
    exact ⟨⟨h1, h2, h3, h4⟩, fun _ _ _ _ => rfl, fun _ _ => rfl⟩
  · rw [bi_eq0, decide_eq_false_iff_not] at c
    have hlt := h1.lt (c := 10 * x + y) (by omega) c
    have e : enq q (10 * x + y) = q ++ [10 * x + y] := by unfold enq; rw [if_neg (fun z => z.elim c (by omega))]
    refine ⟨vp_nI (by omega) (by decide), vp_nI hlt (by decide), ⟨hQ, ?_, fun j hj => ?_, fun i c hi => ?_⟩, fun k k1 k2 k3 => by rw [up_ne k1, up_ne k3, up_ne k2], fun j hj => by rw [up_nx hj, up_ne (by decide), up_ne (by decide)]⟩
    · rw [up_at, e, List.length_append]; rfl
    · rw [up_ne (by decide), up_ne (by decide), e]
      by_cases ej : j = 10 * x + y
      · rw [ej, up_at]; simp [bi]
      · rw [up_nx ej, h3 j hj]; simp [ej]
    · rw [up_ne (by decide)]
      rw [e] at hi
      rcases Nat.lt_or_ge i q.length with g1 | g1
      · rw [List.getElem?_append_left g1] at hi
        rw [up_nx (by omega), up_ne (by decide)]
        exact h4 i c hi
      · rw [List.getElem?_append_right g1] at hi
        have g2 : i - q.length < 1 := (List.getElem?_eq_some_iff.mp hi).1
        have g3 : i = q.length := by omega
        subst g3
        simp at hi
        rw [up_at, hi]
