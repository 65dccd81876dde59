/-! Calls. -/
def CkM (C : String) (y : MethodName) (J : Mi) (n : Nat) : Prop := (∀ w ∈ ([.instanceMethod y, .selects C y y, .initialized C, .code y J.1 J.2.2.1 J.2.2.2] : List Cond), w ∈ GW) ∧ (y.cls = C ∧ y.cls ≠ "java/lang/invoke/MethodHandle" ∧ y.cls ≠ "java/lang/invoke/VarHandle" ∧ (parseMethodDescriptor y.desc).map (fun d => d.parameters.length) = some n) ∧ J.2.2.1 ≤ 20
def CkS (y : MethodName) (J : Mi) (n : Nat) : Prop := (∀ w ∈ ([.static y, .initialized y.cls, .code y J.1 J.2.2.1 J.2.2.2] : List Cond), w ∈ GW) ∧ (y.cls ≠ "java/lang/invoke/MethodHandle" ∧ y.cls ≠ "java/lang/invoke/VarHandle" ∧ (parseMethodDescriptor y.desc).map (fun d => d.parameters.length) = some n) ∧ J.2.2.1 ≤ 20
theorem gIn {y : MethodName} {J : Mi} (hc : Cond.code y J.1 J.2.2.1 J.2.2.2 ∈ GW) : GoodIn GW (wsG y J) := by
  intro w hw
  rcases List.mem_cons.mp hw with rfl | hw
  · exact ⟨hc, gw_good hc⟩
  · exact ⟨hw, gw_good hw⟩
theorem gApp {a b : List Cond} (ha : ∀ w ∈ a, w ∈ GW) (hb : GoodIn GW b) : GoodIn GW (a ++ b) := fun w h => (List.mem_append.mp h).elim (fun h => ⟨ha w h, gw_good (ha w h)⟩) (hb w)
theorem mapRev (ad : Nat → Nat) (as st : List AV) : (as.reverse ++ st).map (avV ad) = (as.map (avV ad)).reverse ++ st.map (avV ad) := by simp
section AWC
variable {Γ : Gam} {D d : Nat} {I J : Mi} {P : Int32 → Mem → Prop} {pc : Nat} {ls : List (Option AV)} {st stk : List AV} {g : Mem} {y : MethodName} {idx : Nat}
theorem rm_ok (h : d + 1 ≤ D) (hn : J.2.2.1 ≤ 20) : (rmD d).frames + 1 ≤ (rmD D).frames ∧ 8 + (J.2.2.1 + 11) + (rmD d).locals ≤ (rmD D).locals := by
  refine ⟨h, ?_⟩
  show 8 + (J.2.2.1 + 11) + 39 * d ≤ 39 * D
  omega
theorem pre_ok {p : Program} {s : State} {m : MethodId} {args : Array Value} {meth : Method} {c : Code} {H : Heap} {locs : List Loc} (hO : Ok Γ I p s m args meth c) (hP : va_P (dd Γ) vwCl (wd Γ g) H) (hS : va_S (fr Γ) s.heap H locs) (as : List AV) : ∀ U : State, U.heap = H → s.WarmedH U.vm → PcG Γ as g (as.map (avV Γ.2.2.2.1)).toArray U := by
  intro U hU hW
  refine ⟨rfl, by rw [hU]; exact hP, ?_⟩
  rw [hU]
  exact hO.2.2.2.2.2.2.2.warm hW (fun a h1 h2 => hS.2.1 a h1 h2)
theorem recv_ok {p : Program} {s : State} {m : MethodId} {args : Array Value} {meth : Method} {c : Code} {H : Heap} {k ci : Nat} {q : vw_C} (hO : Ok Γ I p s m args meth c) (hP : va_P (dd Γ) vwCl (wd Γ g) H) (hk : cAt k = some ci) (hq : vwCl[ci]? = some q) : ∃ cell : Cell, H[Γ.2.2.2.1 k]? = some cell ∧ cell.vm.isStatics = false ∧ s.vm.findClass q.1 = some cell.cls := by
  obtain ⟨fs, hf⟩ := cAt_cell (Γ := Γ) (g := g) hk
  exact va_recv hO.2.2.2.2.2.2.2.1 hP hq (q0 := k) (by rw [wd_at (cAt_lt hk), hf])
theorem aw_callVi {n : Nat} (hl : Cond.methodLink I.2.1 idx y ∈ GW) {C : String} {T : u_T} {N ci k : Nat} (hM : CkM C y J n) (hk : cAt k = some ci) (hq : vwCl[ci]? = some (C, T, N)) (hdp : d + 1 ≤ D) (as : List AV) (hn : as.length = n) (hst : stk = as.reverse ++ (.inr k :: st)) (hs8 : st.length ≤ 8) (hd : decode I.1 pc = .ok (.invokevirtual idx, 3)) {ty : FieldType} (hr : J.2.2.2 = some ty) (R : Runs Γ d y J (.inr k :: as) g (fun r g' => AW Γ D I P (pc + 3) ls (.inl r :: st) g')) : AW Γ D I P pc ls stk g := by
  intro p e s m args below meth c hO H locs lsA hP hS hL
  subst hst
  have hw := hM.1
  have hcode : Cond.code y J.1 J.2.2.1 J.2.2.2 ∈ GW := hw _ (by simp)
  have ht := hO.2.2.2.2.2.1
  have hcw := cwV (R := rmD D) (s := s) (args := args) (own := I.2.1) (index := idx) (C := C) (y := y) (rm := rmD d) (mc := 0) (ms := 0) n ht (gApp (fun w h => by
      simp only [List.mem_cons, List.not_mem_nil, or_false] at h
      rcases h with rfl | rfl | rfl | rfl
      · exact hl
      · exact hw _ (by simp)
      · exact hw _ (by simp)
      · exact hw _ (by simp)) (gIn hcode)) rfl rfl rfl hM.2.1 (rm_ok hdp hM.2.2)
  unfold Runs QcG at R
  rw [hr] at R
  have hrun := va_runV (e := e) (below := below) (meth := meth) (H := H) (locs := locs) (cells := 0) (slots := 0) (g := F0 m pc lsA ((as.reverse ++ (.inr k :: st)).map (avV Γ.2.2.2.1))) (As := as.map (avV Γ.2.2.2.1)) (rest := st.map (avV Γ.2.2.2.1)) ⟨hO.1, hO.2.1, hO.2.2.2.1, hO.2.2.2.2.1, ht⟩ R hcw ⟨PcG.blind, recv_ok hO hP hk hq, pre_ok hO hP hS (.inr k :: as)⟩ rfl (by rw [List.length_map]; exact hn) hL.1 (by rw [mapRev]; rfl) (lv_room (by rw [cat_sum]; exact hs8)) hd ⟨Nat.le_refl _, Nat.le_refl _⟩
  refine va_calli hrun hS (fun q _ h => h) (fun q h => h) (fun r u t H1 locs1 ht1 hvm hw1 hB hz hk1 hS1 => ?_)
  have hB2 : va_P (dd Γ) vwCl (wd Γ u) t.heap := hB
  rw [ht1] at hB2
  exact hw1 p e s m args below meth c hO H1 locs1 lsA hB2 hS1 hL
theorem aw_callVv {n : Nat} (hl : Cond.methodLink I.2.1 idx y ∈ GW) {C : String} {T : u_T} {N ci k : Nat} (hM : CkM C y J n) (hk : cAt k = some ci) (hq : vwCl[ci]? = some (C, T, N)) (hdp : d + 1 ≤ D) (as : List AV) (hn : as.length = n) (hst : stk = as.reverse ++ (.inr k :: st)) (hs8 : st.length ≤ 8) (hd : decode I.1 pc = .ok (.invokevirtual idx, 3)) (hr : J.2.2.2 = none) (R : Runs Γ d y J (.inr k :: as) g (fun r g' => AW Γ D I P (pc + 3) ls st g')) : AW Γ D I P pc ls stk g := by
  intro p e s m args below meth c hO H locs lsA hP hS hL
  subst hst
  have hw := hM.1
  have hcode : Cond.code y J.1 J.2.2.1 J.2.2.2 ∈ GW := hw _ (by simp)
  have ht := hO.2.2.2.2.2.1
  have hcw := cwV (R := rmD D) (s := s) (args := args) (own := I.2.1) (index := idx) (C := C) (y := y) (rm := rmD d) (mc := 0) (ms := 0) n ht (gApp (fun w h => by
      simp only [List.mem_cons, List.not_mem_nil, or_false] at h
      rcases h with rfl | rfl | rfl | rfl
      · exact hl
      · exact hw _ (by simp)
      · exact hw _ (by simp)
      · exact hw _ (by simp)) (gIn hcode)) rfl rfl rfl hM.2.1 (rm_ok hdp hM.2.2)
  unfold Runs QcG at R
  rw [hr] at R
  have hrun := va_runV (e := e) (below := below) (meth := meth) (H := H) (locs := locs) (cells := 0) (slots := 0) (g := F0 m pc lsA ((as.reverse ++ (.inr k :: st)).map (avV Γ.2.2.2.1))) (As := as.map (avV Γ.2.2.2.1)) (rest := st.map (avV Γ.2.2.2.1)) ⟨hO.1, hO.2.1, hO.2.2.2.1, hO.2.2.2.2.1, ht⟩ R hcw ⟨PcG.blind, recv_ok hO hP hk hq, pre_ok hO hP hS (.inr k :: as)⟩ rfl (by rw [List.length_map]; exact hn) hL.1 (by rw [mapRev]; rfl) (lv_room (by rw [cat_sum]; exact hs8)) hd ⟨Nat.le_refl _, Nat.le_refl _⟩
  refine va_callv hrun hS (fun q _ h => h) (fun q h => h) (fun u t H1 locs1 ht1 hvm hw1 hB hz hk1 hS1 => ?_)
  have hB2 : va_P (dd Γ) vwCl (wd Γ u) t.heap := hB
  rw [ht1] at hB2
  exact hw1 p e s m args below meth c hO H1 locs1 lsA hB2 hS1 hL
theorem aw_callNi {n : Nat} {host : String} (hl : (I.2.1, idx, y, host) ∈ nestL) {C : String} {T : u_T} {N ci k : Nat} (hM : CkM C y J n) (hk : cAt k = some ci) (hq : vwCl[ci]? = some (C, T, N)) (hdp : d + 1 ≤ D) (as : List AV) (hn : as.length = n) (hst : stk = as.reverse ++ (.inr k :: st)) (hs8 : st.length ≤ 8) (hd : decode I.1 pc = .ok (.invokevirtual idx, 3)) {ty : FieldType} (hr : J.2.2.2 = some ty) (R : Runs Γ d y J (.inr k :: as) g (fun r g' => AW Γ D I P (pc + 3) ls (.inl r :: st) g')) : AW Γ D I P pc ls stk g := by
  intro p e s m args below meth c hO H locs lsA hP hS hL
  subst hst
  have hw := hM.1
  have hcode : Cond.code y J.1 J.2.2.1 J.2.2.2 ∈ GW := hw _ (by simp)
  have ht := hO.2.2.2.2.2.1
  obtain ⟨hm1, hm2, hm3⟩ := hM.2.1
  subst hm1
  have hcw := va_cnB (R := rmD D) (s := s) (args := args) (own := I.2.1) (index := idx) (y := y) (host := host) (rm := rmD d) (mc := 0) (ms := 0) n ht (gIn hcode) rfl rfl rfl (hO.2.2.2.2.2.2.2.2.1 _ hl) (ht _ (hw (.initialized y.cls) (by simp))) ⟨hm2, hm3⟩ (rm_ok hdp hM.2.2)
  unfold Runs QcG at R
  rw [hr] at R
  have hrun := va_runVN (e := e) (below := below) (meth := meth) (H := H) (locs := locs) (cells := 0) (slots := 0) (g := F0 m pc lsA ((as.reverse ++ (.inr k :: st)).map (avV Γ.2.2.2.1))) (As := as.map (avV Γ.2.2.2.1)) (rest := st.map (avV Γ.2.2.2.1)) ⟨hO.1, hO.2.1, hO.2.2.2.1, hO.2.2.2.2.1, ht⟩ R ⟨hcw, ht _ (hw (.instanceMethod y) (by simp)), ht _ (hw (.selects y.cls y y) (by simp))⟩ ⟨PcG.blind, recv_ok hO hP hk hq, pre_ok hO hP hS (.inr k :: as)⟩ rfl (by rw [List.length_map]; exact hn) hL.1 (by rw [mapRev]; rfl) (lv_room (by rw [cat_sum]; exact hs8)) hd ⟨Nat.le_refl _, Nat.le_refl _⟩
  refine va_calli hrun hS (fun q _ h => h) (fun q h => h) (fun r u t H1 locs1 ht1 hvm hw1 hB hz hk1 hS1 => ?_)
  have hB2 : va_P (dd Γ) vwCl (wd Γ u) t.heap := hB
  rw [ht1] at hB2
  exact hw1 p e s m args below meth c hO H1 locs1 lsA hB2 hS1 hL
theorem aw_callNv {n : Nat} {host : String} (hl : (I.2.1, idx, y, host) ∈ nestL) {C : String} {T : u_T} {N ci k : Nat} (hM : CkM C y J n) (hk : cAt k = some ci) (hq : vwCl[ci]? = some (C, T, N)) (hdp : d + 1 ≤ D) (as : List AV) (hn : as.length = n) (hst : stk = as.reverse ++ (.inr k :: st)) (hs8 : st.length ≤ 8) (hd : decode I.1 pc = .ok (.invokevirtual idx, 3)) (hr : J.2.2.2 = none) (R : Runs Γ d y J (.inr k :: as) g (fun r g' => AW Γ D I P (pc + 3) ls st g')) : AW Γ D I P pc ls stk g := by
  intro p e s m args below meth c hO H locs lsA hP hS hL
  subst hst
  have hw := hM.1
  have hcode : Cond.code y J.1 J.2.2.1 J.2.2.2 ∈ GW := hw _ (by simp)
  have ht := hO.2.2.2.2.2.1
  obtain ⟨hm1, hm2, hm3⟩ := hM.2.1
  subst hm1
  have hcw := va_cnB (R := rmD D) (s := s) (args := args) (own := I.2.1) (index := idx) (y := y) (host := host) (rm := rmD d) (mc := 0) (ms := 0) n ht (gIn hcode) rfl rfl rfl (hO.2.2.2.2.2.2.2.2.1 _ hl) (ht _ (hw (.initialized y.cls) (by simp))) ⟨hm2, hm3⟩ (rm_ok hdp hM.2.2)
  unfold Runs QcG at R
  rw [hr] at R
  have hrun := va_runVN (e := e) (below := below) (meth := meth) (H := H) (locs := locs) (cells := 0) (slots := 0) (g := F0 m pc lsA ((as.reverse ++ (.inr k :: st)).map (avV Γ.2.2.2.1))) (As := as.map (avV Γ.2.2.2.1)) (rest := st.map (avV Γ.2.2.2.1)) ⟨hO.1, hO.2.1, hO.2.2.2.1, hO.2.2.2.2.1, ht⟩ R ⟨hcw, ht _ (hw (.instanceMethod y) (by simp)), ht _ (hw (.selects y.cls y y) (by simp))⟩ ⟨PcG.blind, recv_ok hO hP hk hq, pre_ok hO hP hS (.inr k :: as)⟩ rfl (by rw [List.length_map]; exact hn) hL.1 (by rw [mapRev]; rfl) (lv_room (by rw [cat_sum]; exact hs8)) hd ⟨Nat.le_refl _, Nat.le_refl _⟩
  refine va_callv hrun hS (fun q _ h => h) (fun q h => h) (fun u t H1 locs1 ht1 hvm hw1 hB hz hk1 hS1 => ?_)
  have hB2 : va_P (dd Γ) vwCl (wd Γ u) t.heap := hB
  rw [ht1] at hB2
  exact hw1 p e s m args below meth c hO H1 locs1 lsA hB2 hS1 hL
theorem aw_callSi {n : Nat} (hl : Cond.methodLink I.2.1 idx y ∈ GW) (hM : CkS y J n) (hdp : d + 1 ≤ D) (as : List AV) (hn : as.length = n) (hst : stk = as.reverse ++ st) (hs8 : st.length ≤ 8) (hd : decode I.1 pc = .ok (.invokestatic idx, 3)) {ty : FieldType} (hr : J.2.2.2 = some ty) (R : Runs Γ d y J as g (fun r g' => AW Γ D I P (pc + 3) ls (.inl r :: st) g')) : AW Γ D I P pc ls stk g := by
  intro p e s m args below meth c hO H locs lsA hP hS hL
  subst hst
  have hw := hM.1
  have hcode : Cond.code y J.1 J.2.2.1 J.2.2.2 ∈ GW := hw _ (by simp)
  have ht := hO.2.2.2.2.2.1
  have hcw := va_cwS (R := rmD D) (s := s) (args := args) (own := I.2.1) (index := idx) (y := y) (rm := rmD d) (mc := 0) (ms := 0) n ht (gApp (fun w h => by
      simp only [List.mem_cons, List.not_mem_nil, or_false] at h
      rcases h with rfl | rfl | rfl
      · exact hl
      · exact hw _ (by simp)
      · exact hw _ (by simp)) (gIn hcode)) rfl rfl rfl hM.2.1 (rm_ok hdp hM.2.2)
  unfold Runs QcG at R
  rw [hr] at R
  have hrun := va_runS (e := e) (below := below) (meth := meth) (H := H) (locs := locs) (cells := 0) (slots := 0) (g := F0 m pc lsA ((as.reverse ++ st).map (avV Γ.2.2.2.1))) (As := as.map (avV Γ.2.2.2.1)) (rest := st.map (avV Γ.2.2.2.1)) ⟨hO.1, hO.2.1, hO.2.2.2.1, hO.2.2.2.2.1, ht⟩ R hcw ⟨PcG.blind, pre_ok hO hP hS as⟩ rfl (by rw [List.length_map]; exact hn) hL.1 (by rw [mapRev]) (lv_room (by rw [cat_sum]; exact hs8)) hd ⟨Nat.le_refl _, Nat.le_refl _⟩
  refine va_calli hrun hS (fun q _ h => h) (fun q h => h) (fun r u t H1 locs1 ht1 hvm hw1 hB hz hk1 hS1 => ?_)
  have hB2 : va_P (dd Γ) vwCl (wd Γ u) t.heap := hB
  rw [ht1] at hB2
  exact hw1 p e s m args below meth c hO H1 locs1 lsA hB2 hS1 hL
theorem aw_callSv {n : Nat} (hl : Cond.methodLink I.2.1 idx y ∈ GW) (hM : CkS y J n) (hdp : d + 1 ≤ D) (as : List AV) (hn : as.length = n) (hst : stk = as.reverse ++ st) (hs8 : st.length ≤ 8) (hd : decode I.1 pc = .ok (.invokestatic idx, 3)) (hr : J.2.2.2 = none) (R : Runs Γ d y J as g (fun r g' => AW Γ D I P (pc + 3) ls st g')) : AW Γ D I P pc ls stk g := by
  intro p e s m args below meth c hO H locs lsA hP hS hL
  subst hst
  have hw := hM.1
  have hcode : Cond.code y J.1 J.2.2.1 J.2.2.2 ∈ GW := hw _ (by simp)
  have ht := hO.2.2.2.2.2.1
  have hcw := va_cwS (R := rmD D) (s := s) (args := args) (own := I.2.1) (index := idx) (y := y) (rm := rmD d) (mc := 0) (ms := 0) n ht (gApp (fun w h => by
      simp only [List.mem_cons, List.not_mem_nil, or_false] at h
      rcases h with rfl | rfl | rfl
      · exact hl
      · exact hw _ (by simp)
      · exact hw _ (by simp)) (gIn hcode)) rfl rfl rfl hM.2.1 (rm_ok hdp hM.2.2)
  unfold Runs QcG at R
  rw [hr] at R
  have hrun := va_runS (e := e) (below := below) (meth := meth) (H := H) (locs := locs) (cells := 0) (slots := 0) (g := F0 m pc lsA ((as.reverse ++ st).map (avV Γ.2.2.2.1))) (As := as.map (avV Γ.2.2.2.1)) (rest := st.map (avV Γ.2.2.2.1)) ⟨hO.1, hO.2.1, hO.2.2.2.1, hO.2.2.2.2.1, ht⟩ R hcw ⟨PcG.blind, pre_ok hO hP hS as⟩ rfl (by rw [List.length_map]; exact hn) hL.1 (by rw [mapRev]) (lv_room (by rw [cat_sum]; exact hs8)) hd ⟨Nat.le_refl _, Nat.le_refl _⟩
  refine va_callv hrun hS (fun q _ h => h) (fun q h => h) (fun u t H1 locs1 ht1 hvm hw1 hB hz hk1 hS1 => ?_)
  have hB2 : va_P (dd Γ) vwCl (wd Γ u) t.heap := hB
  rw [ht1] at hB2
  exact hw1 p e s m args below meth c hO H1 locs1 lsA hB2 hS1 hL
theorem aw_callSNi {n : Nat} {host : String} (hl : (I.2.1, idx, y, host) ∈ nestL) (hM : CkS y J n) (hdp : d + 1 ≤ D) (as : List AV) (hn : as.length = n) (hst : stk = as.reverse ++ st) (hs8 : st.length ≤ 8) (hd : decode I.1 pc = .ok (.invokestatic idx, 3)) {ty : FieldType} (hr : J.2.2.2 = some ty) (R : Runs Γ d y J as g (fun r g' => AW Γ D I P (pc + 3) ls (.inl r :: st) g')) : AW Γ D I P pc ls stk g := by
  intro p e s m args below meth c hO H locs lsA hP hS hL
  subst hst
  have hw := hM.1
  have hcode : Cond.code y J.1 J.2.2.1 J.2.2.2 ∈ GW := hw _ (by simp)
  have ht := hO.2.2.2.2.2.1
  have hcw := va_cnB (R := rmD D) (s := s) (args := args) (own := I.2.1) (index := idx) (y := y) (host := host) (rm := rmD d) (mc := 0) (ms := 0) n ht (gIn hcode) rfl rfl rfl (hO.2.2.2.2.2.2.2.2.1 _ hl) (ht _ (hw (.initialized y.cls) (by simp))) hM.2.1 (rm_ok hdp hM.2.2)
  unfold Runs QcG at R
  rw [hr] at R
  have hrun := va_runSN (e := e) (below := below) (meth := meth) (H := H) (locs := locs) (cells := 0) (slots := 0) (g := F0 m pc lsA ((as.reverse ++ st).map (avV Γ.2.2.2.1))) (As := as.map (avV Γ.2.2.2.1)) (rest := st.map (avV Γ.2.2.2.1)) ⟨hO.1, hO.2.1, hO.2.2.2.1, hO.2.2.2.2.1, ht⟩ R ⟨hcw, ht _ (hw (.static y) (by simp)), trivial⟩ ⟨PcG.blind, pre_ok hO hP hS as⟩ rfl (by rw [List.length_map]; exact hn) hL.1 (by rw [mapRev]) (lv_room (by rw [cat_sum]; exact hs8)) hd ⟨Nat.le_refl _, Nat.le_refl _⟩
  refine va_calli hrun hS (fun q _ h => h) (fun q h => h) (fun r u t H1 locs1 ht1 hvm hw1 hB hz hk1 hS1 => ?_)
  have hB2 : va_P (dd Γ) vwCl (wd Γ u) t.heap := hB
  rw [ht1] at hB2
  exact hw1 p e s m args below meth c hO H1 locs1 lsA hB2 hS1 hL
end AWC
