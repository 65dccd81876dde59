/-! A thin layer over the kit: one fixed world of 104 cells, its contents a function g (cell, place -> int); AW: from here the method comes to its end with P; Runs: a call of a method comes to its end with P. -/
abbrev AV : Type := Int32 ⊕ Nat
abbrev Mem : Type := Nat → Nat → Int32
abbrev Gam : Type := Launch × (Nat → ClassId) × (Nat → Nat → Nat) × (Nat → Nat) × (Nat → ClassId) × (Nat → Nat) × (Nat → Nat)
abbrev Mi : Type := ByteArray × String × Nat × Option FieldType
abbrev Shp : Type := (Nat × List (Option Nat)) ⊕ (Nat × Nat) ⊕ List Nat
def shS (b : Nat) : List Shp := [.inl (4, [none, some (b + 1), some (b + 2), some (b + 3), some (b + 4), none, some (b + 5), some (b + 6), none, some (b + 7), some (b + 8), some (b + 9)]), .inr (.inl (0, 10)), .inr (.inl (0, 10)), .inr (.inl (0, 10)), .inr (.inl (0, 10)), .inr (.inl (0, 10)), .inr (.inl (0, 10)), .inr (.inl (0, 4)), .inr (.inl (0, 4)), .inr (.inl (0, 10))]
/-- what each cell is: an object (its place in vwCl; for each field the cell that it refers to, or none for a number), an array of ints (0) or booleans (1), an array of references -/
def shL : List Shp := [
  .inl (6, [some 1, some 34, some 44, some 4, some 6, some 12, some 22, some 24, none]),
  .inl (5, [some 2, none, none, none, none, some 3]), .inr (.inl (0, 160)), .inr (.inl (0, 3)),
  .inl (2, [some 5, none, none]), .inr (.inr [54, 64, 74, 84, 94]),
  .inl (3, [none, none, none, none, none, none, none, some 7, some 8, some 9, some 10, some 11]), .inr (.inl (0, 10)), .inr (.inl (0, 10)), .inr (.inl (0, 10)), .inr (.inl (0, 10)), .inr (.inl (0, 10)),
  .inl (0, [some 13, some 14, some 15, some 16, some 17, some 18, some 19, none, some 20, some 21, none]), .inr (.inl (0, 10)), .inr (.inl (0, 10)), .inr (.inl (0, 100)), .inr (.inl (0, 100)), .inr (.inl (0, 100)), .inr (.inl (0, 100)), .inr (.inl (0, 100)), .inr (.inl (0, 100)), .inr (.inl (0, 100)),
  .inl (1, [some 23, none]), .inr (.inl (0, 10)),
  .inl (1, [some 25, none]), .inr (.inl (0, 10)),
  .inl (7, [none, some 27, some 28, some 29, none, some 30, none, none, none, none, none, none, some 31, none, some 32, some 33, none]),
  .inr (.inl (0, 81)), .inr (.inl (0, 81)), .inr (.inl (0, 405)), .inr (.inl (0, 160)), .inr (.inl (0, 100)), .inr (.inl (1, 100)), .inr (.inl (0, 100))] ++ shS 34 ++ shS 44 ++ shS 54 ++ shS 64 ++ shS 74 ++ shS 84 ++ shS 94
def shp (k : Nat) : Shp := shL.getD k (.inr (.inr []))
def avV (ad : Nat → Nat) (v : AV) : Value := match v with
  | .inl x => .int x
  | .inr k => .ref (ad k)
def fv1 (ad : Nat → Nat) (f : Nat → Int32) (j : Nat) (t : Option Nat) : Value := match t with
  | none => .int (f j)
  | some q => .ref (ad q)
def fldV (ad : Nat → Nat) (f : Nat → Int32) (fl : List (Option Nat)) : List Value := fl.zipIdx.map (fun q => fv1 ad f q.2 q.1)
def cellE (Γ : Gam) (k : Nat) (g : Mem) : va_E := match shp k with
  | .inl q => .inr (q.1, fldV Γ.2.2.2.1 (g k) q.2)
  | .inr (.inl q) => .inl (Γ.2.2.2.2.1 q.1, q.2, .inl (g k))
  | .inr (.inr L) => .inl (Γ.2.2.2.2.1 2, L.length, .inr (.inr (.inr (.inr (fun j => (L[j]?).map Γ.2.2.2.1)))))
def wd (Γ : Gam) (g : Mem) : va_W := (List.range 104).map (fun k => (Γ.2.2.2.1 k, cellE Γ k g))
abbrev dd (Γ : Gam) : va_G := (Γ.2.1, Γ.2.2.1)
def tys3 (Γ : Gam) : List (ClassId × FieldType) := [(Γ.2.2.2.2.1 0, .int), (Γ.2.2.2.2.1 1, .boolean), (Γ.2.2.2.2.1 2, .object "ConfinementAnalyzer$State")]
def fr (Γ : Gam) : Nat → Prop := fun q => ∃ k, k < 104 ∧ q = Γ.2.2.2.1 k
def up (g : Mem) (k i : Nat) (v : Int32) : Mem := fun a => if a = k then upd (g k) i v else g a
theorem up_same (g : Mem) (k i : Nat) (v : Int32) : up g k i v k = upd (g k) i v := by simp [up]
theorem up_ne {g : Mem} {k i a : Nat} {v : Int32} (h : a ≠ k) : up g k i v a = g a := by simp [up, h]
theorem wd_at {Γ : Gam} {g : Mem} {k : Nat} (h : k < 104) : (wd Γ g)[k]? = some (Γ.2.2.2.1 k, cellE Γ k g) := by
  simp [wd, h]
theorem wd_len {Γ : Gam} {g : Mem} : (wd Γ g).length = 104 := by simp [wd]
theorem cellE_ext {Γ : Gam} {g g' : Mem} {k : Nat} (h : g' k = g k) : cellE Γ k g' = cellE Γ k g := by
  unfold cellE
  rw [h]
theorem wd_set {Γ : Gam} {g g' : Mem} {k : Nat} {e : va_E} (hk : k < 104) (he : cellE Γ k g' = e) (ho : ∀ j, j ≠ k → g' j = g j) : (wd Γ g).set k (Γ.2.2.2.1 k, e) = wd Γ g' := by
  apply List.ext_getElem?
  intro j
  by_cases hj : j = k
  · subst hj
    rw [List.getElem?_set_self (by rw [wd_len]; exact hk), wd_at hk, he]
  · rw [List.getElem?_set_ne (Ne.symm hj)]
    by_cases h2 : j < 104
    · rw [wd_at h2, wd_at h2, cellE_ext (ho j hj)]
    · rw [List.getElem?_eq_none (by rw [wd_len]; omega), List.getElem?_eq_none (by rw [wd_len]; omega)]
theorem fldV_at {ad : Nat → Nat} {f : Nat → Int32} {fl : List (Option Nat)} {j : Nat} {t : Option Nat} (h : fl[j]? = some t) : (fldV ad f fl)[j]? = some (fv1 ad f j t) := by
  simp [fldV, List.getElem?_map, List.getElem?_zipIdx, h]
theorem fldV_set {ad : Nat → Nat} {f : Nat → Int32} {fl : List (Option Nat)} {j : Nat} {x : Int32} (h : fl[j]? = some none) : (fldV ad f fl).set j (.int x) = fldV ad (upd f j x) fl := by
  apply List.ext_getElem?
  intro i
  by_cases hi : i = j
  · subst hi
    have hl : i < (fldV ad f fl).length := by
      have := (List.getElem?_eq_some_iff.mp h).1
      simpa [fldV] using this
    rw [List.getElem?_set_self hl, fldV_at h]
    simp [fv1, upd]
  · rw [List.getElem?_set_ne (Ne.symm hi)]
    cases ht : fl[i]? with
    | none =>
      simp [fldV, List.getElem?_map, List.getElem?_zipIdx, ht]
    | some t =>
      rw [fldV_at ht, fldV_at ht]
      cases t <;> simp [fv1, upd, hi]
/-- the strings' lengths and bytes, in the order of their uses -/
def sLen : List Nat := [5, 3, 3, 7, 4]
def sByt : List (List Int32) := [[97, 103, 101, 110, 116], [98, 111, 120], [107, 101, 121], [102, 97, 99, 116, 111, 114, 121], [104, 111, 108, 100]]
def sIdx : List (Nat × String) := [(90, "agent"), (96, "box"), (98, "key"), (100, "factory"), (102, "hold")]
def StrOk (Γ : Gam) (U : State) (H : Heap) : Prop := vk_S 5 sLen sByt Γ.2.2.2.2.2.1 Γ.2.2.2.2.2.2 (fr Γ) U H ∧ (∀ i q, sIdx[i]? = some q → vk_R RX5 q.1 q.2 (Γ.2.2.2.2.2.1 i) U) ∧ va_Z "java/lang/String" "COMPACT_STRINGS" "Z" (.int 1) (fr Γ) U H ∧ va_Zq "jdk/internal/util/Preconditions" "SIOOBE_FORMATTER" "Ljava/util/function/BiFunction;" (fr Γ) U H ∧ (∀ i, i < 5 → Γ.2.2.2.1 (200 + i) = Γ.2.2.2.2.2.1 i) ∧ ∀ i, i < 5 → Γ.2.2.2.1 (300 + i) = Γ.2.2.2.2.2.2 i
def GW : List Cond := lw_tbl.filter goodWord
theorem gw_good {w : Cond} (h : w ∈ GW) : (w.onTables && w.keeps) = true ∨ ∃ ty, w = .arrayClass ty := good_of_word (List.mem_filter.mp h).2
theorem gw_of {w : Cond} (i : Nat) (h : lw_tbl[i]? = some w) (hg : goodWord w = true) : w ∈ GW := List.mem_filter.mpr ⟨List.mem_of_getElem? h, hg⟩
theorem gw_all (ws : List Cond) (ps : List Nat) (hp : ps.map (fun i => lw_tbl[i]?) = ws.map some) (h : ws.all goodWord = true) : ∀ w ∈ ws, w ∈ GW := by
  intro w hw
  have h1 : some w ∈ ws.map some := List.mem_map.mpr ⟨w, hw, rfl⟩
  rw [← hp] at h1
  obtain ⟨i, -, hi⟩ := List.mem_map.mp h1
  exact gw_of i hi (List.all_eq_true.mp h w hw)
/-- the calls over a nest: who calls, the place, the method, the host -/
def NWok (U : State) (L : List (String × Nat × MethodName × String)) : Prop := ∀ q ∈ L, va_Nw (.methodLinkNest q.1 q.2.1 q.2.2.1 q.2.2.2) U
def nestL : List (String × Nat × MethodName × String) := lw_tbl.filterMap (fun w => match w with
  | .methodLinkNest a i y h => some (a, i, y, h)
  | _ => none)
def Tb (Γ : Gam) (U : State) (H : Heap) : Prop := va_K (dd Γ) vwCl (tys3 Γ) U ∧ NWok U nestL ∧ StrOk Γ U H ∧ ∀ i j, i < 104 → j < 104 → Γ.2.2.2.1 i = Γ.2.2.2.1 j → i = j
theorem StrOk.kept {Γ : Gam} {U : State} {H H1 : Heap} (h : StrOk Γ U H) (hq : ∀ a : Nat, a < H.size → ¬ fr Γ a → H1[a]? = H[a]?) : StrOk Γ U H1 := ⟨h.1.kept hq, h.2.1, h.2.2.1.kept hq, h.2.2.2.1.kept hq, h.2.2.2.2⟩
theorem StrOk.warm {Γ : Gam} {s U : State} {H : Heap} (hW : s.WarmedH U.vm) (h : StrOk Γ s H) : StrOk Γ U H := ⟨h.1.moved hW.alike, fun i q hq => (h.2.1 i q hq).warm hW, h.2.2.1.moved hW.alike, h.2.2.2.1.moved hW.alike, h.2.2.2.2⟩
theorem Tb.warm {Γ : Gam} {s U : State} {H H1 : Heap} (hW : s.WarmedH U.vm) (h : Tb Γ s H) (hq : ∀ a : Nat, a < H.size → ¬ fr Γ a → H1[a]? = H[a]?) : Tb Γ U H1 := ⟨va_K.moved hW.alike h.1, fun q hm => (h.2.1 q hm).warmM hW, (h.2.2.1.warm hW).kept hq, h.2.2.2⟩
theorem Tb.same {Γ : Gam} {u U : State} {H : Heap} (hv : U.vm = u.vm) (h : Tb Γ u H) : Tb Γ U H := by
  have ha : u.vm.Alike U.vm := by rw [hv]; exact Vm.Alike.refl u.vm
  exact ⟨va_K.moved ha h.1, fun q hm => va_Nw.same rfl hv.symm (h.2.1 q hm), ⟨h.2.2.1.1.moved ha, fun i q hq => (h.2.2.1.2.1 i q hq).same hv, h.2.2.1.2.2.1.moved ha, h.2.2.1.2.2.2.1.moved ha, h.2.2.1.2.2.2.2⟩, h.2.2.2⟩
theorem wd_D {Γ : Gam} {U : State} {H : Heap} (h : Tb Γ U H) (g : Mem) : va_D (fr Γ) (wd Γ g) := by
  have at' : ∀ (k : Nat) (q : Nat × va_E), (wd Γ g)[k]? = some q → k < 104 ∧ q.1 = Γ.2.2.2.1 k := by
    intro k q hk
    have hl : k < 104 := by
      have := (List.getElem?_eq_some_iff.mp hk).1
      rwa [wd_len] at this
    rw [wd_at hl] at hk
    cases hk
    exact ⟨hl, rfl⟩
  refine ⟨fun i j p q hi hj hpq => ?_, fun k q hk => ?_⟩
  · obtain ⟨h1, h2⟩ := at' i p hi
    obtain ⟨h3, h4⟩ := at' j q hj
    exact h.2.2.2 i j h1 h3 (by rw [← h2, ← h4, hpq])
  · obtain ⟨h1, h2⟩ := at' k q hk
    exact ⟨k, h1, h2⟩
def rmD (D : Nat) : Room := { frames := D, cells := 0, slots := 0, locals := 39 * D }
def BG (Γ : Gam) : Mem → State → Prop := fun g t => va_P (dd Γ) vwCl (wd Γ g) t.heap
def QcG (Γ : Gam) (ret : Option FieldType) (P : Int32 → Mem → Prop) : Array Value → State → Outcome → State → Prop := match ret with
  | none => va_Qv (fun g' => P 0 g') (BG Γ) (fr Γ)
  | some _ => va_Qi P (BG Γ) (fr Γ)
def lget (ls : List (Option AV)) (i : Nat) : Option AV := match ls[i]? with
  | some o => o
  | none => none
def LsOk (Γ : Gam) (lsA : Array Slot) (nL : Nat) (ls : List (Option AV)) : Prop := lsA.size = nL ∧ lv_wf lsA ∧ ∀ i v, lget ls i = some v → lsA[i]? = some (.val (avV Γ.2.2.2.1 v))
def Ok (Γ : Gam) (I : Mi) (p : Program) (s : State) (m : MethodId) (args : Array Value) (meth : Method) (c : Code) : Prop := p.tables.exec = Jvm.exec ∧ c.code = I.1 ∧ meth.sig.returnType = I.2.2.2 ∧ c.maxLocals = I.2.2.1 ∧ s.vm.findClass I.2.1 = some m.cls ∧ (∀ w ∈ GW, w.before args s = true) ∧ meth.locks = false ∧ Tb Γ s s.heap
def AW (Γ : Gam) (D : Nat) (I : Mi) (P : Int32 → Mem → Prop) (pc : Nat) (ls : List (Option AV)) (st : List AV) (g : Mem) : Prop :=
  ∀ (p : Program) (e : Env) (s : State) (m : MethodId) (args : Array Value) (below : List Frame) (meth : Method) (c : Code), Ok Γ I p s m args meth c → ∀ (H : Heap) (locs : List Loc) (lsA : Array Slot), va_P (dd Γ) vwCl (wd Γ g) H → va_S (fr Γ) s.heap H locs → LsOk Γ lsA I.2.2.1 ls →
    W p Γ.1 e (rmD D) s m args below meth c H locs 0 0 (MQ below (QcG Γ I.2.2.2 P) args s 0 0 (fr Γ)) (F0 m pc lsA (st.map (avV Γ.2.2.2.1)))
def PcG (Γ : Gam) (as : List AV) (g : Mem) : Array Value → State → Prop := va_Pc (as.map (avV Γ.2.2.2.1)) (fun U => va_P (dd Γ) vwCl (wd Γ g) U.heap ∧ Tb Γ U U.heap)
def wsG (y : MethodName) (I : Mi) : List Cond := .code y I.1 I.2.2.1 I.2.2.2 :: GW
def Runs (Γ : Gam) (D : Nat) (y : MethodName) (I : Mi) (as : List AV) (g : Mem) (P : Int32 → Mem → Prop) : Prop := Met Γ.1 y (wsG y I) (rmD D) (PcG Γ as g) (QcG Γ I.2.2.2 P) 0 0 (fr Γ)
theorem PcG.blind {Γ : Gam} {as : List AV} {g : Mem} : FrameBlind (PcG Γ as g) := by
  intro a U g' mk h
  obtain ⟨h1, h2, h3⟩ := h
  exact ⟨h1, h2, Tb.same (u := U) rfl h3⟩
theorem avV_cat (ad : Nat → Nat) (v : AV) : (avV ad v).category = 1 := by cases v <;> rfl
theorem cat_sum (ad : Nat → Nat) : ∀ st : List AV, ((st.map (avV ad)).map fun v => v.category).sum = st.length
  | [] => rfl
  | v :: st => by
    have := cat_sum ad st
    simp only [List.map_cons, List.sum_cons, List.length_cons, avV_cat]
    omega
theorem lg_cat1 (ad : Nat → Nat) : ∀ vs : List AV, lg_sl (vs.map (avV ad)) = vs.map (fun v => Slot.val (avV ad v))
  | [] => rfl
  | v :: vs => by
    have h := lg_cat1 ad vs
    unfold lg_sl at h ⊢
    rw [List.map_cons, List.flatMap_cons, h, List.map_cons, if_neg (by rw [avV_cat]; decide)]
    rfl
theorem lvargs1 (ad : Nat → Nat) : ∀ (vs : List AV) (n i : Nat) (v : AV), lget (vs.map some) i = some v → (n + i, avV ad v) ∈ lv_args n (vs.map (avV ad))
  | [], n, i, v, h => by simp [lget] at h
  | w :: vs, n, i, v, h => by
    rw [List.map_cons, lv_args]
    cases i with
    | zero =>
      simp [lget] at h
      subst h
      exact List.mem_cons_self
    | succ i =>
      have h2 : lget (vs.map some) i = some v := by simpa [lget] using h
      have := lvargs1 ad vs (n + 1) i v h2
      rw [if_neg (by rw [avV_cat]; decide)]
      rw [show n + (i + 1) = n + 1 + i by omega]
      exact List.mem_cons_of_mem _ this
theorem Runs.intro {Γ : Gam} {D : Nat} {y : MethodName} {I : Mi} {as : List AV} {g : Mem} {P : Int32 → Mem → Prop} (hy : plainName y.cls = true) (ho : I.2.1 = y.cls) (hn : as.length ≤ I.2.2.1) (K : AW Γ D I P 0 (as.map some) [] g) : Runs Γ D y I as g P := by
  refine Met.ofW (cc := I.1) (maxL := I.2.2.1) (ret := I.2.2.2) hy rfl ?_
  intro p e s m args below meth c s₁ B hml hv
  obtain ⟨rfl, hP, hT⟩ := hv
  have hts := atoms_spec (ws := wsG y I) B.pre
  have hown : s.vm.findClass y.cls = some m.cls := findClass_of_methodNamed B.named
  have hlen : (lg_sl (as.map (avV Γ.2.2.2.1))).length ≤ I.2.2.1 := by rw [lg_cat1]; simpa using hn
  have hl := lv_entry (as.map (avV Γ.2.2.2.1)) (n := I.2.2.1) hlen
  rw [lg_entry_eq]
  refine K p e s m _ below meth c ⟨B.exec, B.bytes, B.returns, hml, by rw [ho]; exact hown, fun w hw => hts w (List.mem_cons_of_mem _ hw), B.notSynchronized, hT⟩ s.heap [] _ hP va_S.rf ⟨hl.1, hl.2.1, fun i v h => ?_⟩
  have := lvargs1 Γ.2.2.2.1 as 0 i v h
  have h2 := hl.2.2 _ this
  rw [Nat.zero_add] at h2
  exact h2
theorem QcG.mono {Γ : Gam} {ret : Option FieldType} {P P' : Int32 → Mem → Prop} (h : ∀ r g', P r g' → P' r g') {a : Array Value} {st t : State} {o : Outcome} (q : QcG Γ ret P a st o t) : QcG Γ ret P' a st o t := by
  cases ret with
  | none =>
    obtain ⟨⟨u, h1, h2, h3⟩, h4⟩ := q
    exact ⟨⟨u, h1, h _ _ h2, h3⟩, h4⟩
  | some ty =>
    obtain ⟨⟨r, u, h1, h2, h3⟩, h4⟩ := q
    exact ⟨⟨r, u, h1, h _ _ h2, h3⟩, h4⟩
