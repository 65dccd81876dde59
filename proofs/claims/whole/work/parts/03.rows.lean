/-! The layer's rows: an instruction, a row. -/
theorem Runs.mono {Γ : Gam} {D : Nat} {y : MethodName} {I : Mi} {as : List AV} {g : Mem} {P P' : Int32 → Mem → Prop} (h : Runs Γ D y I as g P) (hp : ∀ r g', P r g' → P' r g') : Runs Γ D y I as g P' := by
  intro p e ha hc hk s m args below hf happ hP hK
  obtain ⟨n, o, h1, h2, h3, hq, hL⟩ := h p e ha hc hk s m args below hf happ hP hK
  exact ⟨n, o, h1, h2, h3, hq.mono hp, hL⟩
theorem Runs.fn {Γ : Gam} {D : Nat} {y : MethodName} {I : Mi} {as : List AV} {g g1 : Mem} {r1 : Int32} {P : Int32 → Mem → Prop} (h : Runs Γ D y I as g (fun r g' => r = r1 ∧ g' = g1)) (hp : P r1 g1) : Runs Γ D y I as g P := h.mono (fun r g' q => by rw [q.1, q.2]; exact hp)
def aAt (k : Nat) : Option (Nat × Nat) := match shp k with
  | .inr (.inl q) => some q
  | _ => none
def fAt (k j : Nat) : Option (Nat × Option Nat) := match shp k with
  | .inl q => (q.2[j]?).map (fun t => (q.1, t))
  | _ => none
def rAt (k : Nat) : Option (List Nat) := match shp k with
  | .inr (.inr L) => some L
  | _ => none
def cAt (k : Nat) : Option Nat := match shp k with
  | .inl q => some q.1
  | _ => none
theorem shp_big {k : Nat} (h : 104 ≤ k) : shp k = .inr (.inr []) := by
  unfold shp
  rw [List.getD_eq_getElem?_getD, List.getElem?_eq_none]
  · rfl
  · exact Nat.le_trans (by decide) h
theorem aAt_lt {k : Nat} {q : Nat × Nat} (h : aAt k = some q) : k < 104 := by
  rcases Nat.lt_or_ge k 104 with h1 | h1
  · exact h1
  · rw [aAt, shp_big h1] at h; cases h
theorem fAt_lt {k j : Nat} {q : Nat × Option Nat} (h : fAt k j = some q) : k < 104 := by
  rcases Nat.lt_or_ge k 104 with h1 | h1
  · exact h1
  · rw [fAt, shp_big h1] at h; cases h
theorem cAt_lt {k : Nat} {q : Nat} (h : cAt k = some q) : k < 104 := by
  rcases Nat.lt_or_ge k 104 with h1 | h1
  · exact h1
  · rw [cAt, shp_big h1] at h; cases h
theorem aAt_cell {Γ : Gam} {g : Mem} {k : Nat} {q : Nat × Nat} (h : aAt k = some q) : cellE Γ k g = .inl (Γ.2.2.2.2.1 q.1, q.2, .inl (g k)) := by
  unfold aAt at h
  unfold cellE
  split at h
  · rename_i q' hq
    rw [hq]
    cases h
    rfl
  · cases h
theorem fAt_cell {Γ : Gam} {g : Mem} {k j : Nat} {q : Nat × Option Nat} (h : fAt k j = some q) : ∃ fl, fl[j]? = some q.2 ∧ ∀ g : Mem, cellE Γ k g = .inr (q.1, fldV Γ.2.2.2.1 (g k) fl) := by
  unfold fAt at h
  split at h
  · rename_i q' hq
    cases hj : q'.2[j]? with
    | none => rw [hj] at h; cases h
    | some t =>
      rw [hj] at h
      cases h
      exact ⟨q'.2, hj, fun g => by unfold cellE; rw [hq]⟩
  · cases h
theorem cAt_cell {Γ : Gam} {g : Mem} {k ci : Nat} (h : cAt k = some ci) : ∃ fs, cellE Γ k g = .inr (ci, fs) := by
  unfold cAt at h
  split at h
  · rename_i q' hq
    cases h
    exact ⟨fldV Γ.2.2.2.1 (g k) q'.2, by unfold cellE; rw [hq]⟩
  · cases h
theorem rAt_lt {k : Nat} {x : Nat} {L : List Nat} (h : rAt k = some (x :: L)) : k < 104 := by
  rcases Nat.lt_or_ge k 104 with h1 | h1
  · exact h1
  · rw [rAt, shp_big h1] at h; cases h
theorem rAt_cell {Γ : Gam} {g : Mem} {k : Nat} {L : List Nat} (h : rAt k = some L) : cellE Γ k g = .inl (Γ.2.2.2.2.1 2, L.length, .inr (.inr (.inr (.inr (fun j => (L[j]?).map Γ.2.2.2.1))))) := by
  unfold rAt at h
  unfold cellE
  split at h
  · rename_i q' hq
    rw [hq]
    cases h
    rfl
  · cases h
def lset : List (Option AV) → Nat → AV → List (Option AV)
  | [], 0, v => [some v]
  | [], i + 1, v => none :: lset [] i v
  | _ :: ls, 0, v => some v :: ls
  | o :: ls, i + 1, v => o :: lset ls i v
theorem lget_nil (i : Nat) : lget [] i = none := by simp [lget]
theorem lget_0 (o : Option AV) (ls : List (Option AV)) : lget (o :: ls) 0 = o := by simp [lget]
theorem lget_s (o : Option AV) (ls : List (Option AV)) (i : Nat) : lget (o :: ls) (i + 1) = lget ls i := by simp [lget]
theorem lget_lset (v : AV) : ∀ (ls : List (Option AV)) (i j : Nat), lget (lset ls i v) j = if j = i then some v else lget ls j
  | [], 0, 0 => by simp [lset, lget]
  | [], 0, j + 1 => by simp [lset, lget_s, lget_nil]
  | [], i + 1, 0 => by simp [lset, lget_0, lget_nil]
  | [], i + 1, j + 1 => by simp [lset, lget_s, lget_nil, lget_lset v [] i j]
  | o :: ls, 0, 0 => by simp [lset, lget]
  | o :: ls, 0, j + 1 => by simp [lset, lget_s]
  | o :: ls, i + 1, 0 => by simp [lset, lget_0]
  | o :: ls, i + 1, j + 1 => by simp [lset, lget_s, lget_lset v ls i j]
def lmask : List Bool → List (Option AV) → List (Option AV)
  | true :: bs, o :: ls => o :: lmask bs ls
  | false :: bs, _ :: ls => none :: lmask bs ls
  | _, _ => []
theorem lget_lmask : ∀ (bs : List Bool) (ls : List (Option AV)) (i : Nat) (v : AV), lget (lmask bs ls) i = some v → lget ls i = some v
  | [], ls, i, v, h => by cases ls <;> simp [lmask, lget_nil] at h
  | b :: bs, [], i, v, h => by cases b <;> simp [lmask, lget_nil] at h
  | true :: bs, o :: ls, 0, v, h => by simpa [lmask, lget_0] using h
  | false :: bs, o :: ls, 0, v, h => by simp [lmask, lget_0] at h
  | true :: bs, o :: ls, i + 1, v, h => by
    rw [lget_s]; exact lget_lmask bs ls i v (by simpa [lmask, lget_s] using h)
  | false :: bs, o :: ls, i + 1, v, h => by
    rw [lget_s]; exact lget_lmask bs ls i v (by simpa [lmask, lget_s] using h)
def asc (ad : Nat → Nat) (ls : List (Option AV)) : List (Nat × Value) := (List.range ls.length).filterMap (fun j => (lget ls j).map (fun v => (j, avV ad v)))
theorem asc_mem {ad : Nat → Nat} {ls : List (Option AV)} {j : Nat} {v : AV} (h : lget ls j = some v) : (j, avV ad v) ∈ asc ad ls := by
  have hj : j < ls.length := by
    rcases Nat.lt_or_ge j ls.length with h1 | h1
    · exact h1
    · simp [lget, List.getElem?_eq_none h1] at h
  exact List.mem_filterMap.mpr ⟨j, List.mem_range.mpr hj, by rw [h]; rfl⟩
theorem LsOk.has {Γ : Gam} {lsA : Array Slot} {nL : Nat} {ls : List (Option AV)} (h : LsOk Γ lsA nL ls) : lv_has lsA nL (asc Γ.2.2.2.1 ls) := by
  refine ⟨h.1, h.2.1, fun q hq => ?_⟩
  obtain ⟨j, -, hj⟩ := List.mem_filterMap.mp hq
  cases hg : lget ls j with
  | none => rw [hg] at hj; cases hj
  | some v =>
    rw [hg] at hj
    cases hj
    exact h.2.2 j v hg
theorem LsOk.st {Γ : Gam} {lsA : Array Slot} {nL i : Nat} {ls ls' : List (Option AV)} {v : AV} {lv : List (Nat × Value)} (hlv : ∀ q ∈ asc Γ.2.2.2.1 ls, q ∈ lv) (h : lv_has lsA nL ((i, avV Γ.2.2.2.1 v) :: lv.filter (fun q => !(q.1 == i) && !(q.1 + 1 == i && q.2.category == 2)))) (hs : lset ls i v = ls') : LsOk Γ lsA nL ls' := by
  subst hs
  refine ⟨h.1, h.2.1, fun j w hw => ?_⟩
  rw [lget_lset] at hw
  by_cases hj : j = i
  · subst hj
    rw [if_pos rfl] at hw
    cases hw
    exact h.2.2 _ List.mem_cons_self
  · rw [if_neg hj] at hw
    refine h.2.2 (j, avV Γ.2.2.2.1 w) (List.mem_cons_of_mem _ (List.mem_filter.mpr ⟨hlv _ (asc_mem hw), ?_⟩))
    simp [hj, avV_cat]
section AWR
variable {Γ : Gam} {D : Nat} {I : Mi} {P : Int32 → Mem → Prop} {pc : Nat} {ls ls' : List (Option AV)} {st : List AV} {g : Mem}
theorem aw_mask (bs : List Bool) (h : lmask bs ls = ls') (K : AW Γ D I P pc ls' st g) : AW Γ D I P pc ls st g := by
  intro p e s m args below meth c hO H locs lsA hP hS hL
  subst h
  exact K p e s m args below meth c hO H locs lsA hP hS ⟨hL.1, hL.2.1, fun i v hv => hL.2.2 i v (lget_lmask bs ls i v hv)⟩
theorem aw_iconst {n : Int} (v : Int32) (hd : decode I.1 pc = .ok (.iconst n, 1)) (hv : Int32.ofInt n = v) (K : AW Γ D I P (pc + 1) ls (.inl v :: st) g) : AW Γ D I P pc ls st g := by
  intro p e s m args below meth c hO H locs lsA hP hS hL
  exact lv_iconst hO.1 hO.2.1 hd hv (K p e s m args below meth c hO H locs lsA hP hS hL)
theorem aw_bipush {n : Int} (v : Int32) (hd : decode I.1 pc = .ok (.bipush n, 2)) (hv : (Int8.ofInt n).toInt32 = v) (K : AW Γ D I P (pc + 2) ls (.inl v :: st) g) : AW Γ D I P pc ls st g := by
  intro p e s m args below meth c hO H locs lsA hP hS hL
  exact lv_bipush hO.1 hO.2.1 hd hv (K p e s m args below meth c hO H locs lsA hP hS hL)
theorem aw_sipush {n : Int} (v : Int32) (hd : decode I.1 pc = .ok (.sipush n, 3)) (hv : (Int16.ofInt n).toInt32 = v) (K : AW Γ D I P (pc + 3) ls (.inl v :: st) g) : AW Γ D I P pc ls st g := by
  intro p e s m args below meth c hO H locs lsA hP hS hL
  exact lv_sipush hO.1 hO.2.1 hd hv (K p e s m args below meth c hO H locs lsA hP hS hL)
theorem aw_iload_n {k : Fin 4} {x : Int32} (hd : decode I.1 pc = .ok (.iload_n k, 1)) (hl : lget ls k = some (.inl x)) (K : AW Γ D I P (pc + 1) ls (.inl x :: st) g) : AW Γ D I P pc ls st g := by
  intro p e s m args below meth c hO H locs lsA hP hS hL
  exact lv_iload_n hO.1 hO.2.1 hd rfl (hL.2.2 _ _ hl) (K p e s m args below meth c hO H locs lsA hP hS hL)
theorem aw_iload {k : Nat} {x : Int32} (hd : decode I.1 pc = .ok (.iload k, 2)) (hl : lget ls k = some (.inl x)) (K : AW Γ D I P (pc + 2) ls (.inl x :: st) g) : AW Γ D I P pc ls st g := by
  intro p e s m args below meth c hO H locs lsA hP hS hL
  exact lv_iload hO.1 hO.2.1 hd (hL.2.2 _ _ hl) (K p e s m args below meth c hO H locs lsA hP hS hL)
theorem aw_aload_n {k : Fin 4} {x : Nat} (hd : decode I.1 pc = .ok (.aload_n k, 1)) (hl : lget ls k = some (.inr x)) (K : AW Γ D I P (pc + 1) ls (.inr x :: st) g) : AW Γ D I P pc ls st g := by
  intro p e s m args below meth c hO H locs lsA hP hS hL
  exact lv_aload_n hO.1 hO.2.1 hd rfl (hL.2.2 _ _ hl) (K p e s m args below meth c hO H locs lsA hP hS hL)
theorem aw_istore_n {k : Fin 4} {x : Int32} (ls' : List (Option AV)) (hd : decode I.1 pc = .ok (.istore_n k, 1)) (hn : (k : Nat) < I.2.2.1) (hs : lset ls (k : Nat) (.inl x) = ls') (K : AW Γ D I P (pc + 1) ls' st g) : AW Γ D I P pc ls (.inl x :: st) g := by
  intro p e s m args below meth c hO H locs lsA hP hS hL
  exact lv_istore_n hO.1 hO.2.1 hd rfl hL.has hn rfl (fun lsB hB => K p e s m args below meth c hO H locs lsB hP hS (LsOk.st (v := .inl x) (fun q h => h) hB hs))
theorem aw_istore {k : Nat} {x : Int32} (ls' : List (Option AV)) (hd : decode I.1 pc = .ok (.istore k, 2)) (hn : k < I.2.2.1) (hs : lset ls k (.inl x) = ls') (K : AW Γ D I P (pc + 2) ls' st g) : AW Γ D I P pc ls (.inl x :: st) g := by
  intro p e s m args below meth c hO H locs lsA hP hS hL
  exact lv_istore hO.1 hO.2.1 hd hL.has hn rfl (fun lsB hB => K p e s m args below meth c hO H locs lsB hP hS (LsOk.st (v := .inl x) (fun q h => h) hB hs))
theorem aw_astore_n {k : Fin 4} {x : Nat} (ls' : List (Option AV)) (hd : decode I.1 pc = .ok (.astore_n k, 1)) (hn : (k : Nat) < I.2.2.1) (hs : lset ls (k : Nat) (.inr x) = ls') (K : AW Γ D I P (pc + 1) ls' st g) : AW Γ D I P pc ls (.inr x :: st) g := by
  intro p e s m args below meth c hO H locs lsA hP hS hL
  exact lv_astore_n hO.1 hO.2.1 hd rfl hL.has hn rfl (fun lsB hB => K p e s m args below meth c hO H locs lsB hP hS (LsOk.st (v := .inr x) (fun q h => h) hB hs))
theorem aw_iinc {k : Nat} {n : Int} {x : Int32} (v : Int32) (ls' : List (Option AV)) (hd : decode I.1 pc = .ok (.iinc k n, 3)) (hl : lget ls k = some (.inl x)) (hv : x + Int32.ofInt n = v) (hn : k < I.2.2.1) (hs : lset ls k (.inl v) = ls') (K : AW Γ D I P (pc + 3) ls' st g) : AW Γ D I P pc ls st g := by
  intro p e s m args below meth c hO H locs lsA hP hS hL
  have h0 : lv_has lsA I.2.2.1 ((k, .int x) :: asc Γ.2.2.2.1 ls) := ⟨hL.1, hL.2.1, fun q hq => (List.mem_cons.mp hq).elim (fun e => by rw [e]; exact hL.2.2 k (.inl x) hl) (fun hq => hL.has.2.2 q hq)⟩
  exact lv_iinc (k := 0) (x := x) (v := v) hO.1 hO.2.1 hd h0 rfl hv hn rfl (fun lsB hB => K p e s m args below meth c hO H locs lsB hP hS (LsOk.st (v := .inl v) (fun q h => List.mem_cons_of_mem _ h) hB hs))
theorem aw_iadd {x y : Int32} (hd : decode I.1 pc = .ok (.iadd, 1)) (K : AW Γ D I P (pc + 1) ls (.inl (x + y) :: st) g) : AW Γ D I P pc ls (.inl y :: .inl x :: st) g := by
  intro p e s m args below meth c hO H locs lsA hP hS hL
  exact lv_iadd hO.1 hO.2.1 hd (K p e s m args below meth c hO H locs lsA hP hS hL)
theorem aw_isub {x y : Int32} (hd : decode I.1 pc = .ok (.isub, 1)) (K : AW Γ D I P (pc + 1) ls (.inl (x - y) :: st) g) : AW Γ D I P pc ls (.inl y :: .inl x :: st) g := by
  intro p e s m args below meth c hO H locs lsA hP hS hL
  exact lv_isub hO.1 hO.2.1 hd (K p e s m args below meth c hO H locs lsA hP hS hL)
theorem aw_imul {x y : Int32} (hd : decode I.1 pc = .ok (.imul, 1)) (K : AW Γ D I P (pc + 1) ls (.inl (x * y) :: st) g) : AW Γ D I P pc ls (.inl y :: .inl x :: st) g := by
  intro p e s m args below meth c hO H locs lsA hP hS hL
  exact lv_imul hO.1 hO.2.1 hd (K p e s m args below meth c hO H locs lsA hP hS hL)
theorem aw_iand {x y : Int32} (hd : decode I.1 pc = .ok (.iand, 1)) (K : AW Γ D I P (pc + 1) ls (.inl (x &&& y) :: st) g) : AW Γ D I P pc ls (.inl y :: .inl x :: st) g := by
  intro p e s m args below meth c hO H locs lsA hP hS hL
  exact lv_iand hO.1 hO.2.1 hd (K p e s m args below meth c hO H locs lsA hP hS hL)
theorem aw_ior {x y : Int32} (hd : decode I.1 pc = .ok (.ior, 1)) (K : AW Γ D I P (pc + 1) ls (.inl (x ||| y) :: st) g) : AW Γ D I P pc ls (.inl y :: .inl x :: st) g := by
  intro p e s m args below meth c hO H locs lsA hP hS hL
  exact lv_ior hO.1 hO.2.1 hd (K p e s m args below meth c hO H locs lsA hP hS hL)
theorem aw_ixor {x y : Int32} (hd : decode I.1 pc = .ok (.ixor, 1)) (K : AW Γ D I P (pc + 1) ls (.inl (x ^^^ y) :: st) g) : AW Γ D I P pc ls (.inl y :: .inl x :: st) g := by
  intro p e s m args below meth c hO H locs lsA hP hS hL
  exact lv_ixor hO.1 hO.2.1 hd (K p e s m args below meth c hO H locs lsA hP hS hL)
theorem aw_ishl {x y : Int32} (hd : decode I.1 pc = .ok (.ishl, 1)) (K : AW Γ D I P (pc + 1) ls (.inl (x <<< (y &&& 31)) :: st) g) : AW Γ D I P pc ls (.inl y :: .inl x :: st) g := by
  intro p e s m args below meth c hO H locs lsA hP hS hL
  exact lv_ishl hO.1 hO.2.1 hd (K p e s m args below meth c hO H locs lsA hP hS hL)
theorem aw_ishr {x y : Int32} (hd : decode I.1 pc = .ok (.ishr, 1)) (K : AW Γ D I P (pc + 1) ls (.inl (x >>> (y &&& 31)) :: st) g) : AW Γ D I P pc ls (.inl y :: .inl x :: st) g := by
  intro p e s m args below meth c hO H locs lsA hP hS hL
  exact lv_ishr hO.1 hO.2.1 hd (K p e s m args below meth c hO H locs lsA hP hS hL)
theorem aw_idiv {x y : Int32} (hd : decode I.1 pc = .ok (.idiv, 1)) (hy : ¬ y = 0) (K : AW Γ D I P (pc + 1) ls (.inl (x / y) :: st) g) : AW Γ D I P pc ls (.inl y :: .inl x :: st) g := by
  intro p e s m args below meth c hO H locs lsA hP hS hL
  exact lv_idiv hO.1 hO.2.1 hd hy (K p e s m args below meth c hO H locs lsA hP hS hL)
theorem aw_irem {x y : Int32} (hd : decode I.1 pc = .ok (.irem, 1)) (hy : ¬ y = 0) (K : AW Γ D I P (pc + 1) ls (.inl (x - x / y * y) :: st) g) : AW Γ D I P pc ls (.inl y :: .inl x :: st) g := by
  intro p e s m args below meth c hO H locs lsA hP hS hL
  exact lv_irem hO.1 hO.2.1 hd hy (K p e s m args below meth c hO H locs lsA hP hS hL)
theorem aw_iushr {x y : Int32} (hd : decode I.1 pc = .ok (.iushr, 1)) (K : AW Γ D I P (pc + 1) ls (.inl ((x.toUInt32 >>> (y.toUInt32 &&& Int32.toUInt32 31)).toInt32) :: st) g) : AW Γ D I P pc ls (.inl y :: .inl x :: st) g := by
  intro p e s m args below meth c hO H locs lsA hP hS hL
  exact lv_iushr hO.1 hO.2.1 hd rfl (K p e s m args below meth c hO H locs lsA hP hS hL)
theorem aw_dup {v : AV} (hd : decode I.1 pc = .ok (.dup, 1)) (K : AW Γ D I P (pc + 1) ls (v :: v :: st) g) : AW Γ D I P pc ls (v :: st) g := by
  intro p e s m args below meth c hO H locs lsA hP hS hL
  exact lv_dup hO.1 hO.2.1 hd (avV_cat _ v) (K p e s m args below meth c hO H locs lsA hP hS hL)
theorem aw_dup2 {v w : AV} (hd : decode I.1 pc = .ok (.dup2, 1)) (K : AW Γ D I P (pc + 1) ls (v :: w :: v :: w :: st) g) : AW Γ D I P pc ls (v :: w :: st) g := by
  intro p e s m args below meth c hO H locs lsA hP hS hL
  exact lv_dup2_11 hO.1 hO.2.1 hd (avV_cat _ v) (avV_cat _ w) (K p e s m args below meth c hO H locs lsA hP hS hL)
theorem aw_pop {v : AV} (hd : decode I.1 pc = .ok (.pop, 1)) (K : AW Γ D I P (pc + 1) ls st g) : AW Γ D I P pc ls (v :: st) g := by
  intro p e s m args below meth c hO H locs lsA hP hS hL
  exact lv_pop hO.1 hO.2.1 hd (avV_cat _ v) (K p e s m args below meth c hO H locs lsA hP hS hL)
theorem aw_if_eq {x : Int32} {off : Int} (tgt : Nat) (hd : decode I.1 pc = .ok (.ifCond .eq off, 3)) (ht : (pc : Int) + off = (tgt : Int)) (kt : x = 0 → AW Γ D I P tgt ls st g) (kf : ¬ (x = 0) → AW Γ D I P (pc + 3) ls st g) : AW Γ D I P pc ls (.inl x :: st) g := by
  intro p e s m args below meth c hO H locs lsA hP hS hL
  exact lv_if_eq hO.1 hO.2.1 hd ht (fun h => kt h p e s m args below meth c hO H locs lsA hP hS hL) (fun h => kf h p e s m args below meth c hO H locs lsA hP hS hL)
theorem aw_icmp_eq {x y : Int32} {off : Int} (tgt : Nat) (hd : decode I.1 pc = .ok (.if_icmp .eq off, 3)) (ht : (pc : Int) + off = (tgt : Int)) (kt : x = y → AW Γ D I P tgt ls st g) (kf : ¬ (x = y) → AW Γ D I P (pc + 3) ls st g) : AW Γ D I P pc ls (.inl y :: .inl x :: st) g := by
  intro p e s m args below meth c hO H locs lsA hP hS hL
  exact lv_icmp_eq hO.1 hO.2.1 hd ht (fun h => kt h p e s m args below meth c hO H locs lsA hP hS hL) (fun h => kf h p e s m args below meth c hO H locs lsA hP hS hL)
theorem aw_if_ne {x : Int32} {off : Int} (tgt : Nat) (hd : decode I.1 pc = .ok (.ifCond .ne off, 3)) (ht : (pc : Int) + off = (tgt : Int)) (kt : ¬ x = 0 → AW Γ D I P tgt ls st g) (kf : x = 0 → AW Γ D I P (pc + 3) ls st g) : AW Γ D I P pc ls (.inl x :: st) g := by
  intro p e s m args below meth c hO H locs lsA hP hS hL
  exact lv_if_ne hO.1 hO.2.1 hd ht (fun h => kt h p e s m args below meth c hO H locs lsA hP hS hL) (fun h => kf h p e s m args below meth c hO H locs lsA hP hS hL)
theorem aw_icmp_ne {x y : Int32} {off : Int} (tgt : Nat) (hd : decode I.1 pc = .ok (.if_icmp .ne off, 3)) (ht : (pc : Int) + off = (tgt : Int)) (kt : ¬ x = y → AW Γ D I P tgt ls st g) (kf : x = y → AW Γ D I P (pc + 3) ls st g) : AW Γ D I P pc ls (.inl y :: .inl x :: st) g := by
  intro p e s m args below meth c hO H locs lsA hP hS hL
  exact lv_icmp_ne hO.1 hO.2.1 hd ht (fun h => kt h p e s m args below meth c hO H locs lsA hP hS hL) (fun h => kf h p e s m args below meth c hO H locs lsA hP hS hL)
theorem aw_if_lt {x : Int32} {off : Int} (tgt : Nat) (hd : decode I.1 pc = .ok (.ifCond .lt off, 3)) (ht : (pc : Int) + off = (tgt : Int)) (kt : x < 0 → AW Γ D I P tgt ls st g) (kf : ¬ (x < 0) → AW Γ D I P (pc + 3) ls st g) : AW Γ D I P pc ls (.inl x :: st) g := by
  intro p e s m args below meth c hO H locs lsA hP hS hL
  exact lv_if_lt hO.1 hO.2.1 hd ht (fun h => kt h p e s m args below meth c hO H locs lsA hP hS hL) (fun h => kf h p e s m args below meth c hO H locs lsA hP hS hL)
theorem aw_icmp_lt {x y : Int32} {off : Int} (tgt : Nat) (hd : decode I.1 pc = .ok (.if_icmp .lt off, 3)) (ht : (pc : Int) + off = (tgt : Int)) (kt : x < y → AW Γ D I P tgt ls st g) (kf : ¬ (x < y) → AW Γ D I P (pc + 3) ls st g) : AW Γ D I P pc ls (.inl y :: .inl x :: st) g := by
  intro p e s m args below meth c hO H locs lsA hP hS hL
  exact lv_icmp_lt hO.1 hO.2.1 hd ht (fun h => kt h p e s m args below meth c hO H locs lsA hP hS hL) (fun h => kf h p e s m args below meth c hO H locs lsA hP hS hL)
theorem aw_if_ge {x : Int32} {off : Int} (tgt : Nat) (hd : decode I.1 pc = .ok (.ifCond .ge off, 3)) (ht : (pc : Int) + off = (tgt : Int)) (kt : 0 ≤ x → AW Γ D I P tgt ls st g) (kf : ¬ (0 ≤ x) → AW Γ D I P (pc + 3) ls st g) : AW Γ D I P pc ls (.inl x :: st) g := by
  intro p e s m args below meth c hO H locs lsA hP hS hL
  exact lv_if_ge hO.1 hO.2.1 hd ht (fun h => kt h p e s m args below meth c hO H locs lsA hP hS hL) (fun h => kf h p e s m args below meth c hO H locs lsA hP hS hL)
theorem aw_icmp_ge {x y : Int32} {off : Int} (tgt : Nat) (hd : decode I.1 pc = .ok (.if_icmp .ge off, 3)) (ht : (pc : Int) + off = (tgt : Int)) (kt : y ≤ x → AW Γ D I P tgt ls st g) (kf : ¬ (y ≤ x) → AW Γ D I P (pc + 3) ls st g) : AW Γ D I P pc ls (.inl y :: .inl x :: st) g := by
  intro p e s m args below meth c hO H locs lsA hP hS hL
  exact lv_icmp_ge hO.1 hO.2.1 hd ht (fun h => kt h p e s m args below meth c hO H locs lsA hP hS hL) (fun h => kf h p e s m args below meth c hO H locs lsA hP hS hL)
theorem aw_if_gt {x : Int32} {off : Int} (tgt : Nat) (hd : decode I.1 pc = .ok (.ifCond .gt off, 3)) (ht : (pc : Int) + off = (tgt : Int)) (kt : 0 < x → AW Γ D I P tgt ls st g) (kf : ¬ (0 < x) → AW Γ D I P (pc + 3) ls st g) : AW Γ D I P pc ls (.inl x :: st) g := by
  intro p e s m args below meth c hO H locs lsA hP hS hL
  exact lv_if_gt hO.1 hO.2.1 hd ht (fun h => kt h p e s m args below meth c hO H locs lsA hP hS hL) (fun h => kf h p e s m args below meth c hO H locs lsA hP hS hL)
theorem aw_icmp_gt {x y : Int32} {off : Int} (tgt : Nat) (hd : decode I.1 pc = .ok (.if_icmp .gt off, 3)) (ht : (pc : Int) + off = (tgt : Int)) (kt : y < x → AW Γ D I P tgt ls st g) (kf : ¬ (y < x) → AW Γ D I P (pc + 3) ls st g) : AW Γ D I P pc ls (.inl y :: .inl x :: st) g := by
  intro p e s m args below meth c hO H locs lsA hP hS hL
  exact lv_icmp_gt hO.1 hO.2.1 hd ht (fun h => kt h p e s m args below meth c hO H locs lsA hP hS hL) (fun h => kf h p e s m args below meth c hO H locs lsA hP hS hL)
theorem aw_if_le {x : Int32} {off : Int} (tgt : Nat) (hd : decode I.1 pc = .ok (.ifCond .le off, 3)) (ht : (pc : Int) + off = (tgt : Int)) (kt : x ≤ 0 → AW Γ D I P tgt ls st g) (kf : ¬ (x ≤ 0) → AW Γ D I P (pc + 3) ls st g) : AW Γ D I P pc ls (.inl x :: st) g := by
  intro p e s m args below meth c hO H locs lsA hP hS hL
  exact lv_if_le hO.1 hO.2.1 hd ht (fun h => kt h p e s m args below meth c hO H locs lsA hP hS hL) (fun h => kf h p e s m args below meth c hO H locs lsA hP hS hL)
theorem aw_icmp_le {x y : Int32} {off : Int} (tgt : Nat) (hd : decode I.1 pc = .ok (.if_icmp .le off, 3)) (ht : (pc : Int) + off = (tgt : Int)) (kt : x ≤ y → AW Γ D I P tgt ls st g) (kf : ¬ (x ≤ y) → AW Γ D I P (pc + 3) ls st g) : AW Γ D I P pc ls (.inl y :: .inl x :: st) g := by
  intro p e s m args below meth c hO H locs lsA hP hS hL
  exact lv_icmp_le hO.1 hO.2.1 hd ht (fun h => kt h p e s m args below meth c hO H locs lsA hP hS hL) (fun h => kf h p e s m args below meth c hO H locs lsA hP hS hL)
theorem aw_goto {off : Int} (tgt : Nat) (hd : decode I.1 pc = .ok (.goto off, 3)) (ht : (pc : Int) + off = (tgt : Int)) (K : AW Γ D I P tgt ls st g) : AW Γ D I P pc ls st g := by
  intro p e s m args below meth c hO H locs lsA hP hS hL
  exact lv_goto hO.1 hO.2.1 hd ht (K p e s m args below meth c hO H locs lsA hP hS hL)
def FOk (own : String) (idx ci j : Nat) : Prop := ∃ (C : String) (T : u_T) (N : Nat), vwCl[ci]? = some (C, T, N) ∧ j < N ∧ (∀ w ∈ u_ws C T N, w ∈ GW) ∧ Cond.fieldLink own idx (T j).1 (T j).2.1 (T j).2.2.1 ∈ GW
def FPok (own : String) (idx ci j : Nat) (ty : FieldType) : Prop := ∃ (C : String) (T : u_T) (N : Nat) (ty0 : Nat → FieldType), vwCl[ci]? = some (C, T, N) ∧ j < N ∧ (∀ w ∈ u_ws C T N, w ∈ GW) ∧ Cond.fieldLink own idx (T j).1 (T j).2.1 (T j).2.2.1 ∈ GW ∧ (∀ k, k < N → parseFieldDescriptor (T k).2.2.1 = some (ty0 k)) ∧ (∀ a, a < N → ∀ b, b < N → a ≠ b → (T a).2.1 ≠ (T b).2.1) ∧ (T j).2.2.2 = false ∧ parseFieldDescriptor (T j).2.2.1 = some ty
theorem aw_getf {k idx ci j : Nat} {t : Option Nat} (hF : FOk I.2.1 idx ci j) (hf : fAt k j = some (ci, t)) (hd : decode I.1 pc = .ok (.getfield idx, 3)) (v : AV) (hv : fv1 Γ.2.2.2.1 (g k) j t = avV Γ.2.2.2.1 v) (K : AW Γ D I P (pc + 3) ls (v :: st) g) : AW Γ D I P pc ls (.inr k :: st) g := by
  intro p e s m args below meth c hO H locs lsA hP hS hL
  obtain ⟨C, T, N, h1, h2, h3, h4⟩ := hF
  obtain ⟨fl, h5, h6⟩ := fAt_cell (Γ := Γ) (g := g) hf
  exact va_get (v := avV Γ.2.2.2.1 v) hO.1 hO.2.1 hO.2.2.2.2.2.1 h3 hO.2.2.2.2.1 hO.2.2.2.2.2.2.2.1 hP k (by rw [wd_at (fAt_lt hf), h6]) h1 j h2 (hO.2.2.2.2.2.1 _ h4) (fun _ h => h) (by rw [fldV_at h5, ← hv]) hd (K p e s m args below meth c hO H locs lsA hP hS hL)
theorem aw_geti {k idx ci j : Nat} (hF : FOk I.2.1 idx ci j) (hf : fAt k j = some (ci, none)) (hd : decode I.1 pc = .ok (.getfield idx, 3)) (K : AW Γ D I P (pc + 3) ls (.inl (g k j) :: st) g) : AW Γ D I P pc ls (.inr k :: st) g := aw_getf hF hf hd (.inl (g k j)) rfl K
theorem aw_getr {k idx ci j : Nat} (q : Nat) (hF : FOk I.2.1 idx ci j) (hf : fAt k j = some (ci, some q)) (hd : decode I.1 pc = .ok (.getfield idx, 3)) (K : AW Γ D I P (pc + 3) ls (.inr q :: st) g) : AW Γ D I P pc ls (.inr k :: st) g := aw_getf hF hf hd (.inr q) rfl K
theorem aw_putf {k idx ci j : Nat} {ty : FieldType} {x : Int32} (hF : FPok I.2.1 idx ci j ty) (hf : fAt k j = some (ci, none)) (hn : narrow ty (.int x) = .int x) (hfit : fits ty (.int x) = true) (hd : decode I.1 pc = .ok (.putfield idx, 3)) (K : AW Γ D I P (pc + 3) ls st (up g k j x)) : AW Γ D I P pc ls (.inl x :: .inr k :: st) g := by
  intro p e s m args below meth c hO H locs lsA hP hS hL
  obtain ⟨C, T, N, ty0, h1, h2, h3, h4, t1, t2, t3, t4⟩ := hF
  obtain ⟨fl, h5, h6⟩ := fAt_cell (Γ := Γ) (g := g) hf
  have hlt := fAt_lt hf
  have hfl : j < (fldV Γ.2.2.2.1 (g k) fl).length := by
    have := (List.getElem?_eq_some_iff.mp h5).1
    simpa [fldV] using this
  refine va_put (v := .int x) hO.1 hO.2.1 hO.2.2.2.2.2.1 h3 ty0 t1 t2 hO.2.2.2.2.1 hO.2.2.2.2.2.2.2.1 hP (wd_D hO.2.2.2.2.2.2.2 g) hS k (by rw [wd_at hlt, h6]) h1 j h2 (hO.2.2.2.2.2.1 _ h4) (fun _ h => h) t3 t4 hn hfit hfl hd (fun H1 locs1 q1 q2 q3 => ?_)
  have e1 : (wd Γ g).set k (Γ.2.2.2.1 k, .inr (ci, (fldV Γ.2.2.2.1 (g k) fl).set j (.int x))) = wd Γ (up g k j x) := wd_set hlt (by rw [h6, up_same, fldV_set h5]) (fun a ha => up_ne ha)
  rw [e1] at q1
  exact K p e s m args below meth c hO H1 locs1 lsA q1 q3 hL
theorem aw_iald {k n : Nat} {i : Int32} (ha : aAt k = some (0, n)) (hd : decode I.1 pc = .ok (.iaload, 1)) (hin : vp_in i n) (K : AW Γ D I P (pc + 1) ls (.inl (g k i.toNatClampNeg) :: st) g) : AW Γ D I P pc ls (.inl i :: .inr k :: st) g := by
  intro p e s m args below meth c hO H locs lsA hP hS hL
  exact va_iald (f := g k) hO.1 hO.2.1 hO.2.2.2.2.2.2.2.1 hP k 0 (by rw [wd_at (aAt_lt ha), aAt_cell ha]) rfl hin hd (K p e s m args below meth c hO H locs lsA hP hS hL)
theorem aw_zald {k n : Nat} {i : Int32} (ha : aAt k = some (1, n)) (hd : decode I.1 pc = .ok (.baload, 1)) (hin : vp_in i n) (K : AW Γ D I P (pc + 1) ls (.inl (g k i.toNatClampNeg) :: st) g) : AW Γ D I P pc ls (.inl i :: .inr k :: st) g := by
  intro p e s m args below meth c hO H locs lsA hP hS hL
  exact va_zald (f := g k) hO.1 hO.2.1 hO.2.2.2.2.2.2.2.1 hP k 1 (by rw [wd_at (aAt_lt ha), aAt_cell ha]) rfl hin hd (K p e s m args below meth c hO H locs lsA hP hS hL)
theorem aw_iast {k n : Nat} {i x : Int32} (ha : aAt k = some (0, n)) (hd : decode I.1 pc = .ok (.iastore, 1)) (hin : vp_in i n) (K : AW Γ D I P (pc + 1) ls st (up g k i.toNatClampNeg x)) : AW Γ D I P pc ls (.inl x :: .inl i :: .inr k :: st) g := by
  intro p e s m args below meth c hO H locs lsA hP hS hL
  refine va_iast (f := g k) hO.1 hO.2.1 hO.2.2.2.2.2.2.2.1 hP (wd_D hO.2.2.2.2.2.2.2 g) hS k 0 (by rw [wd_at (aAt_lt ha), aAt_cell ha]) rfl hin hd (fun H1 locs1 q1 q2 q3 => ?_)
  have e1 : (wd Γ g).set k (Γ.2.2.2.1 k, .inl (Γ.2.2.2.2.1 0, n, .inl (upd (g k) i.toNatClampNeg x))) = wd Γ (up g k i.toNatClampNeg x) := wd_set (aAt_lt ha) (by rw [aAt_cell ha, up_same]) (fun a ha => up_ne ha)
  rw [e1] at q1
  exact K p e s m args below meth c hO H1 locs1 lsA q1 q3 hL
theorem aw_zast {k n : Nat} {i x : Int32} (ha : aAt k = some (1, n)) (hd : decode I.1 pc = .ok (.bastore, 1)) (hin : vp_in i n) (hx : vp_nar .boolean x = x) (K : AW Γ D I P (pc + 1) ls st (up g k i.toNatClampNeg x)) : AW Γ D I P pc ls (.inl x :: .inl i :: .inr k :: st) g := by
  intro p e s m args below meth c hO H locs lsA hP hS hL
  refine va_zast (f := g k) hO.1 hO.2.1 hO.2.2.2.2.2.2.2.1 hP (wd_D hO.2.2.2.2.2.2.2 g) hS k 1 (by rw [wd_at (aAt_lt ha), aAt_cell ha]) rfl hin hd (fun H1 locs1 q1 q2 q3 => ?_)
  rw [hx] at q1
  have e1 : (wd Γ g).set k (Γ.2.2.2.1 k, .inl (Γ.2.2.2.2.1 1, n, .inl (upd (g k) i.toNatClampNeg x))) = wd Γ (up g k i.toNatClampNeg x) := wd_set (aAt_lt ha) (by rw [aAt_cell ha, up_same]) (fun a ha => up_ne ha)
  rw [e1] at q1
  exact K p e s m args below meth c hO H1 locs1 lsA q1 q3 hL
theorem aw_aald {k x : Nat} {i : Int32} {L : List Nat} (ha : rAt k = some (x :: L)) (hd : decode I.1 pc = .ok (.aaload, 1)) (hin : vp_in i (x :: L).length) (K : AW Γ D I P (pc + 1) ls (.inr ((x :: L).getD i.toNatClampNeg 0) :: st) g) : AW Γ D I P pc ls (.inl i :: .inr k :: st) g := by
  intro p e s m args below meth c hO H locs lsA hP hS hL
  have hlt : i.toNatClampNeg < (x :: L).length := Nat.not_le.mp fun q => hin (Or.inr q)
  have h0 := K p e s m args below meth c hO H locs lsA hP hS hL
  refine va_aldq (f := fun j => ((x :: L)[j]?).map Γ.2.2.2.1) (C := "ConfinementAnalyzer$State") hO.1 hO.2.1 hO.2.2.2.2.2.2.2.1 hP k 2 (by rw [wd_at (rAt_lt ha), rAt_cell ha]) rfl hin hd ?_
  have e1 : va_rf (((x :: L)[i.toNatClampNeg]?).map Γ.2.2.2.1) = avV Γ.2.2.2.1 (.inr ((x :: L).getD i.toNatClampNeg 0)) := by
    rw [List.getD_eq_getElem?_getD, List.getElem?_eq_getElem hlt]
    rfl
  rw [e1]
  exact h0
theorem aw_alen {k n t : Nat} (v : Int32) (ha : aAt k = some (0, n)) (hd : decode I.1 pc = .ok (.arraylength, 1)) (hv : Int32.ofNat n = v) (K : AW Γ D I P (pc + 1) ls (.inl v :: st) g) : AW Γ D I P pc ls (.inr k :: st) g := by
  intro p e s m args below meth c hO H locs lsA hP hS hL
  exact va_alen (x := (n, .inl (g k))) (ty := .int) hO.1 hO.2.1 hO.2.2.2.2.2.2.2.1 hP k 0 (by rw [wd_at (aAt_lt ha), aAt_cell ha]) rfl hv hd (K p e s m args below meth c hO H locs lsA hP hS hL)
theorem aw_iret {v : Int32} {ty : FieldType} (hr : I.2.2.2 = some ty) (hn : narrow ty (.int v) = .int v) (hd : decode I.1 pc = .ok (.ireturn, 1)) (h : P v g) : AW Γ D I P pc ls [.inl v] g := by
  intro p e s m args below meth c hO H locs lsA hP hS hL
  refine W.zret hO.1 hO.2.1 (hO.2.2.1.trans hr) hn (fun t ht hW => ?_) (fun q hq => hS.2.2 q hq) hd hO.2.2.2.2.2.2.1
  rw [hr]
  exact ⟨⟨v, g, rfl, h, by show va_P _ _ _ t.heap; rw [ht]; exact hP⟩, hS.F ht⟩
theorem aw_vret (hr : I.2.2.2 = none) (hd : decode I.1 pc = .ok (.return_, 1)) (h : P 0 g) : AW Γ D I P pc ls [] g := by
  intro p e s m args below meth c hO H locs lsA hP hS hL
  refine W.vret hO.1 hO.2.1 (hO.2.2.1.trans hr) (fun t ht hW => ?_) (fun q hq => hS.2.2 q hq) hd hO.2.2.2.2.2.2.1
  rw [hr]
  exact ⟨⟨g, rfl, h, by show va_P _ _ _ t.heap; rw [ht]; exact hP⟩, hS.F ht⟩
theorem aw_ldcw {idx : Nat} (v : Int32) (hc : Cond.constant I.2.1 idx v ∈ GW) (hd : decode I.1 pc = .ok (.ldc_w idx, 3)) (K : AW Γ D I P (pc + 3) ls (.inl v :: st) g) : AW Γ D I P pc ls st g := by
  intro p e s m args below meth c hO H locs lsA hP hS hL
  exact lv_ldcw hO.1 hO.2.1 hO.2.2.2.2.1 (hO.2.2.2.2.2.1 _ hc) hd (K p e s m args below meth c hO H locs lsA hP hS hL)
theorem aw_ldcs {idx i : Nat} {tx : String} (hi : sIdx[i]? = some (idx, tx)) (ho : I.2.1 = RX5) (hd : decode I.1 pc = .ok (.ldc idx, 2)) (K : AW Γ D I P (pc + 2) ls (.inr (200 + i) :: st) g) : AW Γ D I P pc ls st g := by
  intro p e s m args below meth c hO H locs lsA hP hS hL
  have hs := hO.2.2.2.2.2.2.2.2.2.1
  have h0 := K p e s m args below meth c hO H locs lsA hP hS hL
  have e1 : avV Γ.2.2.2.1 (.inr (200 + i)) = .ref (Γ.2.2.2.2.2.1 i) := by show Value.ref _ = _; rw [hs.2.2.2.2.1 i (List.getElem?_eq_some_iff.mp hi).1]
  rw [List.map_cons, e1] at h0
  exact va_ldcS hO.1 hO.2.1 hO.2.2.2.2.1 (by rw [ho]; exact hs.2.1 i _ hi) hd h0
theorem aw_tIn {dflt lo hi : Int} {offs : Array Int} {len : Nat} {x : Int32} {off : Int} (tgt : Nat) (hd : decode I.1 pc = .ok (.tableswitch dflt lo hi offs, len)) (h1 : ¬ x.toInt < lo) (h2 : ¬ hi < x.toInt) (ho : offs[(x.toInt - lo).toNat]? = some off) (ht : (pc : Int) + off = (tgt : Int)) (K : AW Γ D I P tgt ls st g) : AW Γ D I P pc ls (.inl x :: st) g := by
  intro p e s m args below meth c hO H locs lsA hP hS hL
  exact lv_tableIn hO.1 hO.2.1 hd h1 h2 ho ht (K p e s m args below meth c hO H locs lsA hP hS hL)
theorem aw_tOut {dflt lo hi : Int} {offs : Array Int} {len : Nat} {x : Int32} (tgt : Nat) (hd : decode I.1 pc = .ok (.tableswitch dflt lo hi offs, len)) (h : x.toInt < lo ∨ hi < x.toInt) (ht : (pc : Int) + dflt = (tgt : Int)) (K : AW Γ D I P tgt ls st g) : AW Γ D I P pc ls (.inl x :: st) g := by
  intro p e s m args below meth c hO H locs lsA hP hS hL
  exact lv_tableOut hO.1 hO.2.1 hd h ht (K p e s m args below meth c hO H locs lsA hP hS hL)
def cpy (g : Mem) (q0 q1 sp dp n : Nat) : Mem := fun a => if a = q1 then va_cpy (g q0) (g q1) sp dp n else g a
theorem aw_copy {q0 q1 n0 n1 idx : Nat} {sp dp n : Int32} (hw : ∀ w ∈ ([.methodLink I.2.1 idx arraycopyName, .native arraycopyName, .static arraycopyName, .initialized "java/lang/System"] : List Cond), w ∈ GW) (h0 : aAt q0 = some (0, n0)) (h1 : aAt q1 = some (0, n1)) (hD : 1 ≤ D) (hst : st.length ≤ 4) (hd : decode I.1 pc = .ok (.invokestatic idx, 3)) (hc : ¬ sp < 0 ∧ ¬ dp < 0 ∧ ¬ n < 0 ∧ sp.toNatClampNeg + n.toNatClampNeg ≤ n0 ∧ dp.toNatClampNeg + n.toNatClampNeg ≤ n1) (K : AW Γ D I P (pc + 3) ls st (cpy g q0 q1 sp.toNatClampNeg dp.toNatClampNeg n.toNatClampNeg)) : AW Γ D I P pc ls (.inl n :: .inl dp :: .inr q1 :: .inl sp :: .inr q0 :: st) g := by
  intro p e s m args below meth c hO H locs lsA hP hS hL
  have ht := hO.2.2.2.2.2.1
  have hnf : nativeFrameWords "java/lang/System" "arraycopy" 5 ≤ 20 := by decide +kernel
  refine va_copyi (f := g q0) (g := g q1) (ty := .int) hO.1 hO.2.1 (hO.2.2.2.1.trans hL.1.symm) hO.2.2.2.2.1 (ht _ (hw _ (by simp))) (ht _ (hw _ (by simp))) (ht _ (hw _ (by simp))) (ht _ (hw _ (by simp))) hO.2.2.2.2.2.2.2.1 hP (wd_D hO.2.2.2.2.2.2.2 g) hS q0 q1 0 0 (by rw [wd_at (aAt_lt h0), aAt_cell h0]) (by rw [wd_at (aAt_lt h1), aAt_cell h1]) rfl rfl rfl hc.1 hc.2.1 hc.2.2.1 hc.2.2.2.1 hc.2.2.2.2 (fun i hi => rfl) hD (by rw [cat_sum]; show _ ≤ 39 * D; omega) hd (fun H1 locs1 z1 z2 z3 => ?_)
  have e1 : (wd Γ g).set q1 (Γ.2.2.2.1 q1, .inl (Γ.2.2.2.2.1 0, n1, .inl (va_cpy (g q0) (g q1) sp.toNatClampNeg dp.toNatClampNeg n.toNatClampNeg))) = wd Γ (cpy g q0 q1 sp.toNatClampNeg dp.toNatClampNeg n.toNatClampNeg) := wd_set (aAt_lt h1) (by rw [aAt_cell h1]; simp [cpy]) (fun a ha => by simp [cpy, ha])
  rw [e1] at z1
  exact K p e s m args below meth c hO H1 locs1 lsA z1 z3 hL
theorem aw_mmin {idx : Nat} {x y : Int32} (hw : ∀ w ∈ ([.methodLink I.2.1 idx Lib.Math.min.name, .static Lib.Math.min.name, .initialized "java/lang/Math", .code Lib.Math.min.name Lib.Math.min.code 2 (some .int)] : List Cond), w ∈ GW) (hD : 1 ≤ D) (hst : st.length ≤ 8) (hd : decode I.1 pc = .ok (.invokestatic idx, 3)) (K : AW Γ D I P (pc + 3) ls (.inl (if y < x then y else x) :: st) g) : AW Γ D I P pc ls (.inl y :: .inl x :: st) g := by
  intro p e s m args below meth c hO H locs lsA hP hS hL
  have ht := hO.2.2.2.2.2.1
  exact va_mmin hO.1 hO.2.1 (hO.2.2.2.1.trans hL.1.symm) hO.2.2.2.2.1 (ht _ (hw _ (by simp))) (ht _ (hw _ (by simp))) (ht _ (hw _ (by simp))) (ht _ (hw _ (by simp))) hD (by rw [cat_sum]; show _ ≤ 39 * D; omega) (Nat.le_refl _) (Nat.le_refl _) hd (K p e s m args below meth c hO H locs lsA hP hS hL)
end AWR
