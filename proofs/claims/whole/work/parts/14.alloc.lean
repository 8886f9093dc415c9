/-! new cells -/
def gDf (ci : Nat) (j : Int) : Int := if gFt ci j.toNat = 3 then -1 else 0
theorem gVal_agree {adr adr' : Nat → Nat} {n tc : Nat} {v : Int} (h : ∀ k, k < n → adr' k = adr k) (hv : gOk n tc v) : gVal adr' tc v = gVal adr tc v := by
  match tc, hv with
  | 0, _ => rfl
  | 1, _ => rfl
  | 2, _ => rfl
  | tc + 3, hv =>
    have hv : -1 ≤ v ∧ v < n := hv
    show (if v < 0 then Value.null else .ref (adr' v.toNat)) = if v < 0 then Value.null else .ref (adr v.toNat)
    split
    · rfl
    · rw [h v.toNat (by omega)]
theorem arrV_congr {cA : ClassId} {n : Nat} {f g : Nat → Value} (h : ∀ j, j < n → f j = g j) : arrV cA n f = arrV cA n g := by
  unfold arrV
  congr 1
  first
  | (apply Array.ext
     · simp
     · intro i h1 h2
       simp at h1
       simp [h i h1])
  | (unfold arrSlots
     apply Array.ext
     · simp
     · intro i h1 h2
       simp at h1
       simp [h i h1])
/-- the cell under one address table or another -/
theorem va_at_agree {D : gD} {adr adr' : Nat → Nat} {n : Nat} {kd : gK} {f : Int → Int} {a : Nat} {H : Heap} (h : ∀ k, k < n → adr' k = adr k) (hg : ∀ j : Nat, j < gLen kd → gOk n (gTc kd j) (f j)) (hh : va_at D.1 vwCl (a, gE D adr kd f) H) : va_at D.1 vwCl (a, gE D adr' kd f) H := by
  match kd, hg, hh with
  | .inl ci, hg, hh =>
    have e : gE D adr' (.inl ci) f = gE D adr (.inl ci) f := by
      show (Sum.inr (ci, _) : va_E) = Sum.inr (ci, _)
      congr 2
      apply List.map_congr_left
      intro j hj
      exact gVal_agree h (hg j (List.mem_range.mp hj))
    rw [e]; exact hh
  | .inr (0, n), _, hh => exact hh
  | .inr (1, n), _, hh => exact hh
  | .inr (2, n), _, hh => exact hh
  | .inr (tc + 3, m), hg, hh =>
    have hh : H[a]? = some (arrV (D.2 3) m (fun j => va_rf (gRf adr (f j)))) := hh
    show H[a]? = some (arrV (D.2 3) m (fun j => va_rf (gRf adr' (f j))))
    rw [hh]
    congr 1
    apply arrV_congr
    intro j hj
    have hv : -1 ≤ f j ∧ f j < n := hg j hj
    unfold gRf
    split
    · rfl
    · rw [h (f j).toNat (by omega)]
def gAd (adr : Nat → Nat) (n q : Nat) : Nat → Nat := fun k => if k = n then q else adr k
theorem gAd_lt {adr : Nat → Nat} {n q : Nat} : ∀ k, k < n → gAd adr n q k = adr k := fun k h => if_neg (by omega)
theorem gL_app {L : List gK} {kd : gK} {k : Nat} {x : gK} (h : (L ++ [kd])[k]? = some x) : (k < L.length ∧ L[k]? = some x) ∨ (k = L.length ∧ x = kd) := by
  by_cases hl : k < L.length
  · rw [List.getElem?_append_left hl] at h
    exact Or.inl ⟨hl, h⟩
  · rw [List.getElem?_append_right (by omega)] at h
    have hz : k - L.length < 1 := (List.getElem?_eq_some_iff.mp h).1
    rw [show k - L.length = 0 by omega] at h
    exact Or.inr ⟨by omega, (Option.some.inj h).symm⟩
/-- the world with one cell more -/
theorem gIn_new {D : gD} {adr : Nat → Nat} {L : List gK} {σ : gH} {A : Nat → Prop} {kd : gK} {f : Int → Int} {q : Nat} {e : va_E} {H1 : Heap} (hG : gGood L σ)
    (he : va_at D.1 vwCl (q, e) H1 → va_at D.1 vwCl (q, gE D (gAd adr L.length q) kd f) H1) (hf : ∀ j : Nat, j < gLen kd → gOk (L.length + 1) (gTc kd j) (f j))
    (hP : va_P D.1 vwCl (gWs D adr L σ ++ [(q, e)]) H1) (hD : va_D A (gWs D adr L σ ++ [(q, e)])) :
    va_P D.1 vwCl (gWs D (gAd adr L.length q) (L ++ [kd]) (gUr σ L.length f)) H1 ∧ va_D A (gWs D (gAd adr L.length q) (L ++ [kd]) (gUr σ L.length f)) ∧ gGood (L ++ [kd]) (gUr σ L.length f) := by
  have key : ∀ (k : Nat) (x : Nat × va_E), (gWs D (gAd adr L.length q) (L ++ [kd]) (gUr σ L.length f))[k]? = some x → ∃ y, (gWs D adr L σ ++ [(q, e)])[k]? = some y ∧ y.1 = x.1 ∧ (va_at D.1 vwCl y H1 → va_at D.1 vwCl x H1) := by
    intro k x hx
    obtain ⟨kd', h1, rfl⟩ := gWs_at hx
    rcases gL_app h1 with ⟨hl, h2⟩ | ⟨rfl, rfl⟩
    · refine ⟨(adr k, gE D adr kd' (σ k)), ?_, (gAd_lt k hl).symm, fun hh => ?_⟩
      · rw [List.getElem?_append_left (by rw [gWs_len]; exact hl), gWs_get h2]
      · rw [gAd_lt k hl]
        have e1 : gUr σ L.length f k = σ k := if_neg (by omega)
        rw [e1]
        exact va_at_agree gAd_lt (fun j hj => hG k kd' h2 j hj) hh
    · refine ⟨(q, e), ?_, ?_, fun hh => ?_⟩
      · rw [List.getElem?_append_right (by rw [gWs_len]; omega), gWs_len, Nat.sub_self]; rfl
      · unfold gAd; simp
      · have e1 : gUr σ L.length f L.length = f := if_pos rfl
        have e2 : gAd adr L.length q L.length = q := if_pos rfl
        rw [e1, e2]
        exact he hh
  refine ⟨fun k x hx => ?_, ⟨fun i j x y hi hj hxy => ?_, fun k x hx => ?_⟩, fun k kd' h1 j hj => ?_⟩
  · obtain ⟨y, h1, h2, h3⟩ := key k x hx
    exact h3 (hP k y h1)
  · obtain ⟨x', h1, h2, -⟩ := key i x hi
    obtain ⟨y', h3, h4, -⟩ := key j y hj
    exact hD.1 i j x' y' h1 h3 (h2.trans (hxy.trans h4.symm))
  · obtain ⟨y, h1, h2, -⟩ := key k x hx
    rw [← h2]
    exact hD.2 k y h1
  · rw [List.length_append, List.length_singleton]
    rcases gL_app h1 with ⟨hl, h2⟩ | ⟨rfl, rfl⟩
    · have e1 : gUr σ L.length f k = σ k := if_neg (by omega)
      rw [e1]
      have := hG k kd' h2 j hj
      revert this
      generalize gTc kd' j = tc
      match tc with
      | 0 => exact id
      | 1 => exact id
      | 2 => exact id
      | tc + 3 => intro h; have h : -1 ≤ σ k j ∧ σ k j < L.length := h; exact ⟨h.1, by have := h.2; omega⟩
    · have e1 : gUr σ L.length f L.length = f := if_pos rfl
      rw [e1]
      exact hf j hj
section GN
variable {M : gM} {d mc ms : Nat} {Q : gV → List gK → gH → Prop} {L : List gK} {σ : gH} {pc pc' : Nat} {ls st : List gV}
/-- behind the making of a cell -/
theorem gnew_end {kd : gK} {f : Int → Int} {n pc1 : Nat} {st1 : List gV} (hf : ∀ j : Nat, j < gLen kd → gOk (L.length + 1) (gTc kd j) (f j)) (hst1 : ∀ v ∈ st1, v ∈ st)
    (k : gWp M d mc ms Q (L ++ [kd]) (gUr σ L.length f) pc1 ls (gR L.length :: st1))
    {p : Program} {l : Launch} {e : Env} {R : Room} {s : State} {m : MethodId} {args : Array Value} {below : List Frame} {meth : Method} {c : Code} {D : gD} {adr0 b : Nat → Nat} {n0 : Nat} {Qf : State → Prop}
    (C : gCtx M d p l R s m args meth c D adr0 b n0)
    (hret : ∀ (v : gV) (L : List gK) (σ : gH) (adr : Nat → Nat) (H : Heap) (locs : List Loc) (cells slots : Nat) (lsM : Array Slot) (pc : Nat), Q v L σ → gIn (gEc v) (gEs v) R s D adr0 n0 adr H locs cells slots L σ → gW L.length v → gRd M.2.1 pc M.2.2.2.1 v → lsM.size = M.2.2.1 → W p l e R s m args below meth c H locs cells slots Qf (F0 m pc lsM (gRs adr b v)))
    {adr : Nat → Nat} {H : Heap} {locs : List Loc} {cells slots : Nat} {lsM : Array Slot} (hI : gIn (1 + mc) (n + ms) R s D adr0 n0 adr H locs cells slots L σ) (hF : gFr adr b M.2.2.1 L.length ls st lsM)
    {q : Nat} {H1 : Heap} {en : va_E} (hq : s.heap.size ≤ q) (he : va_at D.1 vwCl (q, en) H1 → va_at D.1 vwCl (q, gE D (gAd adr L.length q) kd f) H1) (hP1 : va_P D.1 vwCl (gWs D adr L σ ++ [(q, en)]) H1) (hD1 : va_D (gA adr0 n0 s.heap.size) (gWs D adr L σ ++ [(q, en)])) (hS1 : va_S (gA adr0 n0 s.heap.size) s.heap H1 locs) :
    W p l e R s m args below meth c H1 locs (cells + 1) (slots + n) Qf (F0 m pc1 lsM (.ref q :: st1.map (gC adr b))) := by
  obtain ⟨i1, i2, i3, i4, i5, i6, i7, i8, i9⟩ := hI
  obtain ⟨hP2, hD2, hG2⟩ := gIn_new i3 he hf hP1 hD1
  have hlen : (L ++ [kd]).length = L.length + 1 := by rw [List.length_append, List.length_singleton]
  have hw1 : ∀ v ∈ st1, gW L.length v := fun v hv => hF.2.2 v (hst1 v hv)
  have kk := k p l e R s m args below meth c D adr0 b n0 Qf C hret (gAd adr L.length q) H1 locs (cells + 1) (slots + n) lsM
    ⟨hP2, hD2, hG2, hS1, fun k hk => (gAd_lt k (by omega)).trans (i5 k hk), by omega, fun k h1 h2 => by
      by_cases h3 : k = L.length
      · subst h3; unfold gAd; rw [if_pos rfl]; exact hq
      · rw [gAd_lt k (by omega)]; exact i7 k h1 (by omega), by omega, by omega⟩
    ⟨gLs_agree gAd_lt hF.2.1 hF.1, fun v hv => gW_up (by omega) (hF.2.1 v hv), gwc (gWR (by omega)) (fun v hv => gW_up (by omega) (hw1 v hv))⟩
  have e1 : (gR L.length :: st1).map (gC (gAd adr L.length q) b) = .ref q :: st1.map (gC adr b) := by
    rw [List.map_cons, gC_agrees gAd_lt hw1]
    show Value.ref (gAd adr L.length q L.length) :: _ = _
    unfold gAd; rw [if_pos rfl]
  rw [e1] at kk
  exact kk
theorem gnew_at {D : gD} {adr0 adr : Nat → Nat} {n0 sz : Nat} {L : List gK} {σ : gH} {q : Nat} {en : va_E} (hD : va_D (gA adr0 n0 sz) (gWs D adr L σ ++ [(q, en)])) (h5 : ∀ k, k < n0 → adr k = adr0 k) (h6 : n0 ≤ L.length) : sz ≤ q := by
  have hl : (gWs D adr L σ ++ [(q, en)])[L.length]? = some (q, en) := by
    rw [List.getElem?_append_right (by rw [gWs_len]; omega), gWs_len, Nat.sub_self]; rfl
  rcases hD.2 _ _ hl with ⟨k, hk, hq⟩ | h
  · have hkl : k < L.length := by omega
    have h2 : (gWs D adr L σ ++ [(q, en)])[k]? = some (adr k, gE D adr L[k] (σ k)) := by
      rw [List.getElem?_append_left (by rw [gWs_len]; exact hkl)]
      exact gWs_get (List.getElem?_eq_getElem hkl)
    have := hD.1 k L.length _ _ h2 hl ((h5 k hk).trans hq)
    omega
  · exact h
def gNw (ci : Nat) : Prop := ∃ (r : vw_C) (ty0 : Nat → FieldType), vwCl[ci]? = some r ∧ (∀ w ∈ u_ws r.1 r.2.1 r.2.2, w ∈ gG) ∧ (∀ k, k < r.2.2 → parseFieldDescriptor (r.2.1 k).2.2.1 = some (ty0 k)) ∧ (∀ k, k < r.2.2 → gFt2 (ty0 k) = gFt ci k) ∧ Cond.instantiable r.1 r.2.2 ∈ gG ∧ Cond.initialized r.1 ∈ gG
theorem gDf_ok {ci j n : Nat} (h : gFt ci j ≤ 3) : gOk (n + 1) (gFt ci j) (gDf ci j) := by
  unfold gDf
  rw [Int.toNat_natCast]
  generalize gFt ci j = t at h ⊢
  match t, h with
  | 0, _ => exact ⟨by decide, by decide⟩
  | 1, _ => exact ⟨by decide, by decide⟩
  | 2, _ => exact Or.inl rfl
  | 3, _ => exact ⟨by decide, by show (-1 : Int) < ((n + 1 : Nat) : Int); omega⟩
theorem gFt2_def {ty : FieldType} {t : Nat} (h : gFt2 ty = t) (h3 : t ≤ 3) : defaultValue ty = gVal (fun _ => 0) t (if t = 3 then -1 else 0) := by
  subst h
  cases ty <;> first | rfl | (exact absurd h3 (by decide))
theorem wg_new {idx ci : Nat} {C1 : String} {N1 : Nat} (hnw : gNw ci) (hC : ∀ r, vwCl[ci]? = some r → r.1 = C1 ∧ r.2.2 = N1) (hft : ∀ j, gFt ci j ≤ 3) (hlink : Cond.classLink M.1.cls idx C1 ∈ gG) (hd : decode M.2.1 pc = .ok (.new idx, 3)) (hpc : pc + 3 = pc')
    (k : gWp M d mc ms Q (L ++ [.inl ci]) (gUr σ L.length (gDf ci)) pc' ls (gR L.length :: st)) : gWp M d (1 + mc) (N1 + ms) Q L σ pc ls st := by
  subst hpc
  intro p l e R s m args below meth c D adr0 b n0 Qf C hret adr H locs cells slots lsM hI hF
  obtain ⟨⟨C2, T2, N2⟩, ty0, hr, hin, hty, hdf, hinst, hini⟩ := hnw
  obtain ⟨rfl, rfl⟩ := hC _ hr
  have hA : ∀ q, s.heap.size ≤ q → gA adr0 n0 s.heap.size q := fun q h => Or.inr h
  have hN : gN ci = N2 := gN_of hr
  have hfs : ∀ j, j < N2 → defaultValue (ty0 j) = vp_V ((List.range (gN ci)).map fun j => gVal (fun _ => 0) (gFt ci j) (gDf ci j)) j := by
    intro j hj
    have e1 : vp_V ((List.range (gN ci)).map fun j => gVal (fun _ => 0) (gFt ci j) (gDf ci j)) j = gVal (fun _ => 0) (gFt ci j) (gDf ci j) := by
      unfold vp_V
      rw [List.getD_eq_getElem?_getD, gE_obj_get (adr := fun _ => 0) (f := gDf ci) (by rw [hN]; exact hj)]
      rfl
    rw [e1, gFt2_def (hdf j hj) (hft j)]
    unfold gDf
    rw [Int.toNat_natCast]
  refine va_new (ci := ci) (fs := (List.range (gN ci)).map fun j => gVal (fun _ => 0) (gFt ci j) (gDf ci j)) C.1 C.2.1 C.2.2.2.2.1 hin ty0 hty C.2.2.2.1 (C.2.2.2.2.1 _ hlink) (C.2.2.2.2.1 _ hinst) (C.2.2.2.2.1 _ hini) C.2.2.2.2.2.1 hI.1 hI.2.1 hI.2.2.2.1 hA hr hfs ?_ ?_ hd fun q H1 hP1 hD1 hS1 => ?_
  · have := hI.2.2.2.2.2.2.2.1; omega
  · have := hI.2.2.2.2.2.2.2.2; show slots + N2 ≤ R.slots; have h9 : slots + (N2 + ms) ≤ R.slots := this; omega
  · refine gnew_end (kd := .inl ci) (f := gDf ci) (n := N2) (fun j hj => gDf_ok (hft j)) (fun v h => h) k C hret hI hF (gnew_at hD1 hI.2.2.2.2.1 hI.2.2.2.2.2.1) (fun hh => ?_) hP1 hD1 hS1
    have e1 : gE D (gAd adr L.length q) (.inl ci) (gDf ci) = .inr (ci, (List.range (gN ci)).map fun j => gVal (fun _ => 0) (gFt ci j) (gDf ci j)) := by
      show (Sum.inr (ci, _) : va_E) = Sum.inr (ci, _)
      congr 2
      apply List.map_congr_left
      intro j _
      unfold gDf
      rw [Int.toNat_natCast]
      have h3 := hft j
      generalize gFt ci j = t at h3
      match t, h3 with
      | 0, _ => rfl
      | 1, _ => rfl
      | 2, _ => rfl
      | 3, _ => rfl
      | t + 4, h => exact absurd h (by omega)
    rw [e1]; exact hh
def gAt (tc : Nat) : ArrayType := match tc with
  | 0 => .int
  | 1 => .long
  | _ => .boolean
theorem wg_newarray {n tc : Nat} {ty : FieldType} (htc : (tc = 0 ∧ ty = .int) ∨ (tc = 1 ∧ ty = .long) ∨ (tc = 2 ∧ ty = .boolean)) (hn : n < 1048576) (hac : Cond.arrayClass ty ∈ gG) (hd : decode M.2.1 pc = .ok (.newarray (gAt tc), 2)) (hpc : pc + 2 = pc')
    (k : gWp M d mc ms Q (L ++ [.inr (tc, n)]) (gUr σ L.length (fun _ => 0)) pc' ls (gR L.length :: st)) : gWp M d (1 + mc) (n + ms) Q L σ pc ls (gI n :: st) := by
  subst hpc
  intro p l e R s m args below meth c D adr0 b n0 Qf C hret adr H locs cells slots lsM hI hF
  have hA : ∀ q, s.heap.size ≤ q → gA adr0 n0 s.heap.size q := fun q h => Or.inr h
  have hi : gi32 (n : Int) := ⟨by omega, by omega⟩
  have hneg : ¬ Int32.ofInt (n : Int) < 0 := fun h => by
    have h2 : Int32.ofInt (n : Int) < Int32.ofInt 0 := h
    rw [glt32 hi (by decide)] at h2
    omega
  have hnat : (Int32.ofInt (n : Int)).toNatClampNeg = n := by rw [gnat32 hi (by omega)]; exact Int.toNat_natCast n
  have h8 := hI.2.2.2.2.2.2.2.1
  have h9 := hI.2.2.2.2.2.2.2.2
  have hcls : ∀ (t0 : Nat) (ty : FieldType) (cA : ClassId), (gTys D)[t0]? = some (D.2 t0, ty) → (∀ c, va_RA s c ty = (s.vm.findClass ("[" ++ ty.toString) = some c)) → va_K D.1 vwCl (gTys D ++ [(cA, ty)]) s → cA = D.2 t0 := by
    intro t0 ty cA h1 h2 h3
    have ha := (C.2.2.2.2.2.1.2 t0 _ h1).2
    have hb := (h3.2 (gTys D).length (cA, ty) (by simp)).2
    rw [h2] at ha hb
    exact Option.some.inj (hb.symm.trans ha)
  rcases htc with ⟨rfl, rfl⟩ | ⟨rfl, rfl⟩ | ⟨rfl, rfl⟩
  · refine va_newa (atype := .int) (a0 := (n, .inl fun _ => 0)) C.1 C.2.1 (C.2.2.2.2.1 _ hac) rfl C.2.2.2.2.2.1 hI.1 hI.2.1 hI.2.2.2.1 hA (fun cA => rfl) hneg hnat (by show n * 4 ≤ 536870912; omega) (by omega) (by omega) hd fun q cA H1 hK1 hP1 hD1 hS1 => ?_
    have hc := hcls 0 .int cA rfl (fun c => rfl) hK1
    subst hc
    exact gnew_end (kd := .inr (0, n)) (f := fun _ => 0) (n := n) (fun j hj => ⟨by decide, by decide⟩) (fun v h => List.mem_cons_of_mem _ h) k C hret hI hF (gnew_at hD1 hI.2.2.2.2.1 hI.2.2.2.2.2.1) (fun hh => hh) hP1 hD1 hS1
  · refine va_newa (atype := .long) (a0 := (n, .inr (.inl fun _ => 0))) C.1 C.2.1 (C.2.2.2.2.1 _ hac) rfl C.2.2.2.2.2.1 hI.1 hI.2.1 hI.2.2.2.1 hA (fun cA => rfl) hneg hnat (by show n * 8 ≤ 536870912; omega) (by omega) (by omega) hd fun q cA H1 hK1 hP1 hD1 hS1 => ?_
    have hc := hcls 1 .long cA rfl (fun c => rfl) hK1
    subst hc
    exact gnew_end (kd := .inr (1, n)) (f := fun _ => 0) (n := n) (fun j hj => ⟨by decide, by decide⟩) (fun v h => List.mem_cons_of_mem _ h) k C hret hI hF (gnew_at hD1 hI.2.2.2.2.1 hI.2.2.2.2.2.1) (fun hh => hh) hP1 hD1 hS1
  · refine va_newa (atype := .boolean) (a0 := (n, .inl fun _ => 0)) C.1 C.2.1 (C.2.2.2.2.1 _ hac) rfl C.2.2.2.2.2.1 hI.1 hI.2.1 hI.2.2.2.1 hA (fun cA => rfl) hneg hnat (by show n * 1 ≤ 536870912; omega) (by omega) (by omega) hd fun q cA H1 hK1 hP1 hD1 hS1 => ?_
    have hc := hcls 2 .boolean cA rfl (fun c => rfl) hK1
    subst hc
    exact gnew_end (kd := .inr (2, n)) (f := fun _ => 0) (n := n) (fun j hj => Or.inl rfl) (fun v h => List.mem_cons_of_mem _ h) k C hret hI hF (gnew_at hD1 hI.2.2.2.2.1 hI.2.2.2.2.2.1) (fun hh => hh) hP1 hD1 hS1
end GN
