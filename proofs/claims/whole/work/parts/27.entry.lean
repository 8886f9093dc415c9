/-! the store behind both constructors, and the law from its entry, over any invariant that holds there and that all calls keep -/
def gInit : gH := gUr (hc_133 (gUr (hc_0 (gUr (fun _ _ => 0) 0 (gDf 11))) 133 (gDf 12))) 208 (fun _ => 0)
set_option maxRecDepth 100000 in
theorem gInit_gr : gGr gInit := by
  have h : ∀ k : Fin 209, ∀ kd, gL[(k : Nat)]? = some kd → ∀ j : Nat, j < gLen kd → gSt kd j = true → gInit k j = gRef k j := by
    have h2 : (List.range 209).all (fun k => match gL[k]? with
      | some kd => (List.range (gLen kd)).all (fun j => !gSt kd j || decide (gInit k (j : Int) = gRef k j))
      | none => true) = true := by decide +kernel
    intro k kd hk j hj hs
    have h3 := List.all_eq_true.mp h2 k (List.mem_range.mpr k.2)
    rw [hk] at h3
    have h4 := List.all_eq_true.mp h3 j (List.mem_range.mpr hj)
    rw [hs] at h4
    simpa using h4
  intro k kd hk j hj hs
  have hlt : k < 209 := by have := (List.getElem?_eq_some_iff.mp hk).1; rw [gLen_gL] at this; exact this
  exact h ⟨k, hlt⟩ kd hk j hj hs
set_option maxRecDepth 100000 in
theorem law_entry (Inv : gH → Prop) (hA : Agree Inv) (hI0 : Inv gInit) {xs : List Int} (hxs : ∀ j, gi32 (xs.getD j 0)) (hL : xs.length ≤ 4096) : gWp (mLaw xs) 100 (1 + (132 + (1 + (74 + (1 + 512))))) (14 + (11094 + (116 + (30918 + (1 + 6 * 512))))) (fun v _ _ => v = gI 1) (gL.take 0) (fun _ _ => 0) 0 [gX 2, gX 1, gX 1, gX 1, gX 1, gX 1, gX 1, gX 1] [] := by
  refine t_new (ci := 11) (C1 := RX11) (N1 := 14) (pc' := 3) (n' := 1) kd_0 nw_X11 nc_X11 nf_X11 cn_L_8 dL_law_0 rfl rfl ⟨rfl, rfl⟩ ?_
  refine wg_dup (pc' := 4) dL_law_3 rfl ?_
  refine t_callI (pc' := 7) (d' := 3) (mc' := 132) (ms' := 11094) (n' := 133) (av := []) ms_mX11_init rfl in_mX11_init rfl lk_L_26 rfl rfl (Nat.le_of_ble_eq_true rfl) (by decide) dL_law_4 rfl ⟨rfl, rfl⟩ (kc_0 _) ?_
  refine wg_astore_n (pc' := 8) (i := 1) (ls' := [gX 2, gR 0, gX 1, gX 1, gX 1, gX 1, gX 1, gX 1]) (by rfl) (Nat.le_of_ble_eq_true rfl) (by rfl) dL_law_7 rfl ?_
  refine t_new (ci := 12) (C1 := RX12) (N1 := 116) (pc' := 11) (n' := 134) kd_133 nw_X12 nc_X12 nf_X12 cn_L_27 dL_law_8 rfl rfl ⟨rfl, rfl⟩ ?_
  refine wg_dup (pc' := 12) dL_law_11 rfl ?_
  refine t_callI (pc' := 15) (d' := 1) (mc' := 74) (ms' := 30918) (n' := 208) (av := []) ms_mX12_init rfl in_mX12_init rfl lk_L_29 rfl rfl (Nat.le_of_ble_eq_true rfl) (by decide) dL_law_12 rfl ⟨rfl, rfl⟩ (kc_133 _) ?_
  refine wg_astore_n (pc' := 16) (i := 2) (ls' := [gX 2, gR 0, gR 133, gX 1, gX 1, gX 1, gX 1, gX 1]) (by rfl) (Nat.le_of_ble_eq_true rfl) (by rfl) dL_law_15 rfl ?_
  refine wg_iconst (pc' := 17) (by decide) dL_law_16 rfl ?_
  refine t_newarray (N := 1) (tc := 1) (ty := .long) (pc' := 19) (n' := 209) kd_208 (by decide) (by decide) ac_J dL_law_17 rfl rfl ⟨rfl, rfl⟩ ?_
  refine wg_astore_n (pc' := 20) (i := 3) (ls' := [gX 2, gR 0, gR 133, gR 208, gX 1, gX 1, gX 1, gX 1]) (by rfl) (Nat.le_of_ble_eq_true rfl) (by rfl) dL_law_19 rfl ?_
  refine wg_iconst (pc' := 21) (by decide) dL_law_20 rfl ?_
  refine wg_istore (pc' := 23) (ls' := [gX 2, gR 0, gR 133, gR 208, gI 0, gX 1, gX 1, gX 1]) (Nat.le_of_ble_eq_true rfl) (by rfl) dL_law_21 rfl ?_
  have hfull : gL.take 209 = gL := List.take_of_length_le (by rw [gLen_gL]; exact Nat.le_refl _)
  rw [hfull]
  exact law_loop Inv hA hxs hL 512 0 gInit (by omega) (by omega) (by omega) gInit_gr hI0
set_option maxHeartbeats 4000000 in
theorem whole_open (Inv : gH → Prop) (hA : Agree Inv) (hI0 : Inv gInit) {p : Program} {e : Env} {s : State} {m : MethodId} {below : List Frame} {meth : Method} {c : Code} (l : Launch) (hflags : l.flags = flags0) {b L : Nat} {xs : Nat → Int32} (hL : L ≤ 4096) (C0 : lw_At p s m meth c b L xs) : W p l e room_1 s m #[Value.ref b] below meth c s.heap [] 0 0 (lw_Z below #[Value.ref b] s) (entryFrame m ([Value.ref b] : List Value).toArray 8) := by
  obtain ⟨hx, hb, hr, hml, hown, hts, hX, hbl, hlocks, hgv⟩ := id C0
  have hA0 : ∀ a : Nat, a < s.heap.size → ¬ gA (fun _ => 0) 0 s.heap.size a := by
    intro a ha h
    rcases h with ⟨k, hk, -⟩ | h
    · omega
    · exact absurd h (by omega)
  obtain ⟨bb, hbb, hZ⟩ := gZ_start (A := gA (fun _ => 0) 0 s.heap.size) hts hgv hA0
  have tg : ∀ w ∈ gG, w.before #[Value.ref b] s = true := fun w h => hts w (List.mem_filter.mp h).1
  have hk : ∀ k : Nat, ∃ z : ClassId × (Nat → Nat), ∀ q : vw_C, vwCl[k]? = some q → u_Kn s q.1 q.2.1 q.2.2 z.1 z.2 := by
    intro k
    have go : ∀ (C : String) (T : u_T) (N : Nat), (∀ w ∈ u_ws C T N, w ∈ gG) → Cond.instantiable C N ∈ gG → vwCl[k]? = some (C, T, N) → ∃ z : ClassId × (Nat → Nat), ∀ q : vw_C, vwCl[k]? = some q → u_Kn s q.1 q.2.1 q.2.2 z.1 z.2 := by
      intro C T N h1 h2 h3
      obtain ⟨cC, iS, h4⟩ := u_known (n := N) tg h1 (tg _ h2)
      exact ⟨(cC, iS), fun q hq => by rw [h3] at hq; cases hq; exact h4⟩
    match k, go with
    | 0, go => exact go _ _ _ inG_X0 is_X0 rfl
    | 1, go => exact go _ _ _ inG_X1 is_X1 rfl
    | 2, go => exact go _ _ _ inG_X2 is_X2 rfl
    | 3, go => exact go _ _ _ inG_X3 is_X3 rfl
    | 4, go => exact go _ _ _ inG_X4 is_X4 rfl
    | 5, go => exact go _ _ _ inG_X5 is_X5 rfl
    | 6, go => exact go _ _ _ inG_X6 is_X6 rfl
    | 7, go => exact go _ _ _ inG_X7 is_X7 rfl
    | 8, go => exact go _ _ _ inG_X8 is_X8 rfl
    | 9, go => exact go _ _ _ inG_X9 is_X9 rfl
    | 10, go => exact go _ _ _ inG_X10 is_X10 rfl
    | 11, go => exact go _ _ _ inG_X11 is_X11 rfl
    | 12, go => exact go _ _ _ inG_X12 is_X12 rfl
    | k + 13, _ => exact ⟨(0, fun _ => 0), fun q hq => by simp [vwCl] at hq⟩
  obtain ⟨f, hf⟩ := Classical.axiomOfChoice hk
  have harr : ∀ ty : FieldType, Cond.arrayClass ty ∈ gG → (∀ c, va_RA s c ty = (s.vm.findClass ("[" ++ ty.toString) = some c)) → ∃ cA, ArrOfT s cA ty ∧ va_RA s cA ty := by
    intro ty h1 h2
    obtain ⟨cA, kA, comp, a1, a2, a3⟩ := Cond.arrayClass_spec (tg _ h1)
    exact ⟨cA, fun n z => ⟨(fun k h => by cases h), kA, a2, comp, a3⟩, by rw [h2]; exact a1⟩
  obtain ⟨cI, hI1, hI2⟩ := harr .int ac_I (fun _ => rfl)
  obtain ⟨cJ, hJ1, hJ2⟩ := harr .long ac_J (fun _ => rfl)
  obtain ⟨cZ, hZ1, hZ2⟩ := harr .boolean ac_Z (fun _ => rfl)
  obtain ⟨cQ, hQ1, hQ2⟩ : ∃ cA, ArrOfT s cA (.object "GiftRegister$Law") ∧ va_RA s cA (.object "GiftRegister$Law") := by
    obtain ⟨comp, cA, kA, a1, -, a3, a4, a5⟩ := Cond.arrayOver_spec (va_AO.use (A := #[]) hZ.2.1)
    exact ⟨cA, fun n z => ⟨(fun k h => by cases h), kA, a3, comp, a4⟩, kA, comp, a3, a4, a1, a5⟩
  let XS : List Int := (List.range L).map fun j => (xs j).toInt
  have hXl : XS.length = L := by simp [XS]
  have hXg : ∀ j, j < L → XS.getD j 0 = (xs j).toInt := by
    intro j hj
    simp [XS, List.getD_eq_getElem?_getD, List.getElem?_map, List.getElem?_range hj]
  have hXin : ∀ v ∈ XS, gi32 v := by
    intro v hv
    obtain ⟨j, -, rfl⟩ := List.mem_map.mp hv
    exact gto32 _
  have hxs : ∀ j, gi32 (XS.getD j 0) := by
    intro j
    by_cases hj : j < L
    · rw [hXg j hj]; exact gto32 _
    · rw [List.getD_eq_getElem?_getD, List.getElem?_eq_none (by rw [hXl]; omega)]
      exact ⟨by decide, by decide⟩
  have main := gWp.budget (mc' := 601024) (ms' := 7293034) (by omega) (by omega) (law_entry Inv hA hI0 (xs := XS) hxs (by rw [hXl]; exact hL))
  have hgt : gTab x = none := by decide +kernel
  have hl := lv_entry ([.ref b]) (n := 8) (Nat.le_of_ble_eq_true rfl)
  rw [lg_entry_eq]
  refine main p l e room_1 s m #[Value.ref b] below meth c ((fun k => (f k).1, fun k => (f k).2), fun k => if k = 0 then cI else if k = 1 then cJ else if k = 2 then cZ else cQ) (fun _ => 0) bb 0 _ ⟨hx, hb, hml, hown, tg, ⟨fun ci q hq => hf ci q hq, ?_⟩, by decide, by decide, hflags, fun h => absurd (show x.name = "<init>" from h) (by decide), hZ, ?_, fun hh h => (by rw [show gTab (mLaw XS).1 = none from hgt] at h; cases h)⟩ ?_ (fun _ => 0) s.heap [] 0 0 _ ⟨?_, ?_, ?_, va_S.rf, fun k h => by omega, Nat.zero_le _, fun k h1 h2 => absurd h2 (Nat.not_lt_zero _), ?_, ?_⟩ ⟨⟨hl.1, rfl, hl.2.1, ?_⟩, ?_, fun v h => by cases h⟩
  · intro k q hq
    match k, hq with
    | 0, hq => cases hq; exact ⟨hI1, hI2⟩
    | 1, hq => cases hq; exact ⟨hJ1, hJ2⟩
    | 2, hq => cases hq; exact ⟨hZ1, hZ2⟩
    | 3, hq => cases hq; exact ⟨hQ1, hQ2⟩
    | k + 4, hq => simp [gTys] at hq
  · intro xs2 h
    cases h
    rw [hbb]
    refine ⟨?_, hbl, hA0 _ hbl, hXin⟩
    obtain ⟨scr, s1, s2, s3, s4, s5⟩ := hX
    exact ⟨scr, s1, s2, s3, by rw [hXl]; exact s4, fun j hj => by rw [hXl] at hj; rw [s5 j hj]; show _ = some (Value.int (Int32.ofInt (XS.getD j 0))); rw [hXg j hj, gback32]⟩
  · intro v L' σ' adr H locs cells slots lsM pc hq hI hw hrd hsz
    subst hq
    rcases hrd with ⟨h1, -⟩ | ⟨ty, n, h1, h2, h3, -⟩ | ⟨-, -, n, h3⟩ | ⟨-, -, -, n, h3⟩ | ⟨-, -, h3⟩ | ⟨h3, -⟩
    · exact absurd (show ret = some .int from h1) (by decide)
    · show W p l e room_1 s m #[Value.ref b] below meth c H locs cells slots (lw_Z below #[Value.ref b] s) (F0 m pc lsM [.int (Int32.ofInt 1)])
      refine va_forget (fun q hq => ?_) ?_
      · rcases hI.2.2.2.1.2.2 q hq with ⟨k, hk, -⟩ | h
        · omega
        · exact h
      refine W.widen (k := 601024) (n := 7293034) (by have := hI.2.2.2.2.2.2.2.1; have h9 : cells + 0 ≤ 601024 := this; omega) (by have := hI.2.2.2.2.2.2.2.2; have h9 : slots + 0 ≤ 7293034 := this; omega) ?_
      exact lw_ret hx hb hr hlocks h2
    · cases h3
    · cases h3
    · cases h3
    · cases h3
  · intro k q hq; simp [gWs] at hq
  · exact ⟨fun i j p q h => by simp [gWs] at h, fun k q h => by simp [gWs] at h⟩
  · intro k kd h; simp at h
  · show 0 + 601024 ≤ 601024; omega
  · show 0 + 7293034 ≤ 7293034; omega
  · intro i v hi hv
    match i, hi with
    | 0, hi =>
      cases hi
      have h0 := hl.2.2 (0, .ref b) List.mem_cons_self
      rw [gC_X (by decide), hbb]
      exact h0
    | 1, hi => cases hi; exact absurd rfl hv
    | 2, hi => cases hi; exact absurd rfl hv
    | 3, hi => cases hi; exact absurd rfl hv
    | 4, hi => cases hi; exact absurd rfl hv
    | 5, hi => cases hi; exact absurd rfl hv
    | 6, hi => cases hi; exact absurd rfl hv
    | 7, hi => cases hi; exact absurd rfl hv
    | i + 8, hi => simp at hi
  · intro v hv
    simp only [List.mem_cons, List.not_mem_nil, or_false] at hv
    rcases hv with rfl | rfl | rfl | rfl | rfl | rfl | rfl | rfl <;> trivial
