/-! a caller that catches -/
def gWordsW (M : gM) (hh : List (Nat × Nat × Nat × Nat)) : List Cond := .codeWith M.1 M.2.1 M.2.2.1 M.2.2.2.1 hh :: gG
def gMtW (M : gM) (hh : List (Nat × Nat × Nat × Nat)) (d mc ms : Nat) (av : List gV) (L : List gK) (σ : gH) (Q : gV → List gK → gH → Prop) : Prop :=
  ∀ (l : Launch), l.flags = flags0 → ∀ (D : gD) (adr b : Nat → Nat) (sz : Nat), Met l M.1 (gWordsW M hh) (gRoom d mc ms) (gPc D adr b sz L σ av) (gQc D adr b L sz Q) mc ms (gA adr L.length sz)
theorem gMtW.of {M : gM} {hh : List (Nat × Nat × Nat × Nat)} {d mc ms : Nat} {av : List gV} {L : List gK} {σ : gH} {Q : gV → List gK → gH → Prop} (hp : plainName M.1.cls = true) (htab : gTab M.1 = some hh) (hX : M.2.2.2.2 = none) (hno : ∀ k L σ, ¬ Q (gX (k + 9)) L σ) (hlen : (gFlat av).length ≤ M.2.2.1) (k : gWp M d mc ms Q L σ 0 (gEnt av M.2.2.1) []) : gMtW M hh d mc ms av L σ Q := by
  intro l hfl D adr b sz
  refine va_MetW (cc := M.2.1) (maxL := M.2.2.1) (ret := M.2.2.2.1) (hh := hh) hp rfl ?_
  intro p e s m args below meth c s₁ B hml hv
  obtain ⟨rfl, hsz, hP, hD, hG, hW, hK, hZ⟩ := hv
  have hx := B.exec
  have hb := B.bytes
  have hr := B.returns
  have hts := atoms_spec (ws := gWordsW M hh) B.pre
  have hown : s.vm.findClass M.1.cls = some m.cls := findClass_of_methodNamed B.named
  have hlocks := B.notSynchronized
  have hin : meth.name = M.1.name := (name_of_methodNamed B.named B.method).1
  have hxt : c.exceptionTable.toList = tableOf hh := vx_table (x := M.1) B (hts _ List.mem_cons_self)
  subst hsz
  rw [lg_entry_eq]
  refine k p l e (gRoom d mc ms) s m _ below meth c D adr b L.length _ ⟨hx, hb, hml, hown, fun w hw => hts w (List.mem_cons_of_mem _ hw), hK, Nat.le_refl _, Nat.le_refl _, hfl, fun h => hin.trans h, hZ, fun xs h => (by rw [hX] at h; cases h), fun h2 h => (by rw [htab] at h; cases h; exact hxt)⟩ ?_ adr s.heap [] 0 0 _ ⟨hP, hD, hG, va_S.rf, fun _ _ => rfl, Nat.le_refl _, fun k h1 h2 => by omega, by show 0 + mc ≤ mc; omega, by show 0 + ms ≤ ms; omega⟩ ⟨gEnt_ls hlen, gEnt_W hW, fun v h => by cases h⟩
  intro v L' σ' adr' H locs cells slots lsM pc hq hI hw hrd hlsz
  obtain ⟨i1, i2, i3, i4, i5, i6, i7, i8, i9⟩ := hI
  refine W.widen (k := mc) (n := ms) (Nat.le_trans (Nat.le_add_right _ _) i8) (Nat.le_trans (Nat.le_add_right _ _) i9) ?_
  have hQ : ∀ t : State, t.heap = H → s.WarmedH t.vm → gQc D adr b L s.heap.size Q ((av.map (gC adr b)).toArray) s (.returned (gRv adr' b v)) t := by
    intro t ht hwm
    exact ⟨⟨_, rfl, v, L', σ', adr', rfl, hq, by rw [ht]; exact i1, i2, i3, hw, i5, i6, i7⟩, i4.F ht⟩
  have hf : ∀ q ∈ locs, gA adr L.length s.heap.size q.base := i4.2.2
  rcases hrd with ⟨h1, h2, n, rfl⟩ | ⟨ty, n, h1, h2, rfl, hnr⟩ | ⟨h1, h2, n, rfl⟩ | ⟨C, h1, h2, q, rfl⟩ | ⟨h1, h2, rfl⟩ | ⟨rfl, -⟩
  · exact W.iret hx hb (hr.trans h1) hQ hf h2 hlocks
  · exact W.zret hx hb (hr.trans h1) hnr hQ hf h2 hlocks
  · exact W.lret hx hb (hr.trans h1) hQ hf h2 hlocks
  · exact W.aret hx hb (hr.trans h1) (Or.inl ⟨C, rfl⟩) (Or.inr ⟨_, rfl⟩) hQ hf h2 hlocks
  · exact W.vret hx hb (hr.trans h1) hQ hf h2 hlocks
  · exact absurd hq (hno _ _ _)
theorem gSt1_lsX {adr b : Nat → Nat} {nL : Nat} {ls : List gV} {i : Nat} {w : Value} {lsM lsM' : Array Slot} (h : gLs adr b nL ls lsM) (hi : i < nL)
    (h' : lv_has lsM' nL ((i, w) :: (gLv adr b ls).filter (fun q => !(q.1 == i) && !(q.1 + 1 == i && q.2.category == 2)))) : gLs adr b nL (gSt1 ls i (gX 1)) lsM' := by
  refine ⟨h'.1, gSt1_len.trans h.2.1, h'.2.1, fun j v hj hv => ?_⟩
  refine h'.2.2 (j, gC adr b v) ?_
  rcases gSt1_get (by rw [h.2.1]; exact hi) hj hv with ⟨rfl, rfl⟩ | ⟨h1, h2, h3⟩
  · exact absurd rfl hv
  · refine List.mem_cons_of_mem _ (List.mem_filter.mpr ⟨gLv_mem h2 hv, ?_⟩)
    by_cases e : j + 1 = i
    · have := gC_cat1 (adr := adr) (b := b) (h3 e)
      simp [h1, this]
    · simp [h1, e]
section GQ
variable {M : gM} {d mc ms : Nat} {Q : gV → List gK → gH → Prop} {L : List gK} {σ : gH} {pc : Nat} {ls st : List gV}
theorem wg_callVX {M' : gM} {idx n d' mc' ms' x ci fi s0 e0 h0 ct hp' : Nat} {av st0 : List gV} {Q' : gV → List gK → gH → Prop} {T' : List gK → gH → Prop} (hm : gMi M' n) (hlink : Cond.methodLink M.1.cls idx M'.1 ∈ gG) (hn : av.length = n) (hci : gCi ci M'.1.cls) (hk : L[x]? = some (.inl ci)) (hst : st0 = av.reverse ++ gR x :: st) (hcat : gCat st ≤ 8) (hdd : d' + 1 ≤ d) (hd : decode M.2.1 pc = .ok (.invokevirtual idx, 3))
    (htab : gTab M.1 = some [(s0, e0, h0, ct)]) (hcov : s0 ≤ pc ∧ pc < e0) (hct : ct ≠ 0) (hcl : Cond.classLink M.1.cls ct gEx ∈ gG) (hcast : Cond.castable gEx gEx ∈ tables_1)
    (hh : (∃ f : Fin 4, decode M.2.1 h0 = .ok (.astore_n f, 1) ∧ (f : Nat) = fi ∧ hp' = h0 + 1) ∨ (decode M.2.1 h0 = .ok (.astore fi, 2) ∧ hp' = h0 + 2)) (hfi : fi < M.2.2.1)
    (hM : gMx M' d' mc' ms' (gR x :: av) L σ Q' T') (k : ∀ v L' σ', Q' v L' σ' → gWp M d mc ms Q L' σ' (pc + 3) ls (gPush v st)) (kx : ∀ L' σ', T' L' σ' → gWp M d mc ms Q L' σ' hp' (gSt1 ls fi (gX 1)) []) : gWp M d (mc' + mc) (ms' + ms) Q L σ pc ls st0 := by
  subst hst
  intro p l e R s m args below meth c D adr0 b n0 Qf C hret adr H locs cells slots lsM hI hF
  have hws : ∀ v ∈ st, gW L.length v := fun v hv => hF.2.2 v (List.mem_append_right _ (List.mem_cons_of_mem _ hv))
  have hwa : ∀ v ∈ gR x :: av, gW L.length v := fun v hv => hF.2.2 v (by
    rcases List.mem_cons.mp hv with rfl | hv
    · exact List.mem_append_right _ List.mem_cons_self
    · exact List.mem_append_left _ (List.mem_reverse.mpr hv))
  have hc0 : p.tables.exec = Jvm.exec ∧ c.code = M.2.1 ∧ c.maxLocals = M.2.2.1 ∧ s.vm.findClass M.1.cls = some m.cls ∧ ∀ w ∈ gG, w.before args s = true := ⟨C.1, C.2.1, C.2.2.1, C.2.2.2.1, C.2.2.2.2.1⟩
  obtain ⟨r, hr1, hr2⟩ := hci
  have hZ := C.2.2.2.2.2.2.2.2.2.2.1
  have run := vx_runV (p := p) (e := e) (R := R) (m := m) (below := below) (meth := meth) (H := H) (locs := locs) (cells := cells) (slots := slots) (g := F0 m pc lsM ((av.reverse ++ gR x :: st).map (gC adr b))) (rest := st.map (gC adr b)) (b := adr x) (As := av.map (gC adr b)) (n := n) hc0 (hM l C.2.2.2.2.2.2.2.2.1 D adr b H.size) (cwV n C.2.2.2.2.1 (gGood_in fun w hw => by
      rcases List.mem_append.mp hw with hw | hw
      · simp only [List.mem_cons, List.not_mem_nil, or_false] at hw
        rcases hw with rfl | rfl | rfl | rfl
        · exact hlink
        · exact hm.2.1
        · exact hm.2.2
        · exact hm.1.1
      · exact gWords_in hm.1 w hw) rfl rfl rfl ⟨rfl, hm.1.2.2.1⟩ ⟨by have := C.2.2.2.2.2.2.1; show d' + 1 ≤ R.frames; omega, by have := C.2.2.2.2.2.2.2.1; have := hm.1.2.2.2; show 8 + (M'.2.2.1 + 11) + 64 * d' ≤ R.locals; omega⟩) ⟨gPc_blind, by have := va_recv C.2.2.2.2.2.1 hI.1 hr1 (gWs_get hk); rw [hr2] at this; exact this, fun U hU hW => gPc_in hI C.2.2.2.2.2.1 hZ hwa U hU hW⟩ rfl (by rw [List.length_map]; exact hn) hF.1.1 (by simp [List.map_reverse]; rfl) (by rw [gCat_of]; show 2 * 0 + gCat st ≤ 8; omega) hd ⟨by have := hI.2.2.2.2.2.2.2.1; omega, by have := hI.2.2.2.2.2.2.2.2; omega⟩
  intro T hT X
  obtain ⟨i1, i2, i3, i4, i5, i6, i7, i8, i9⟩ := id hI
  have hup := gA_up i5 i7 i4.1
  rcases run T hT X with ⟨v, st₀, t, T', Lc, h00, X', hL, e1, e2, hQa, hgo⟩ | ⟨q, st₀, t, T', Lc, E, ce, h00, X', hL, e1, e2, ⟨rfl, hres, hz, hkk⟩, hce, hcv, hcls, hst⟩
  · have hr' : va_Run p l e R s m args below meth c H locs cells slots mc' ms' (F0 m pc lsM ((av.reverse ++ gR x :: st).map (gC adr b))) (st.map (gC adr b)) (gQc D adr b L H.size Q' (Value.ref (adr x) :: av.map (gC adr b)).toArray) (gA adr L.length H.size) → True := fun _ => trivial
    obtain ⟨⟨w0, hw0, hres⟩, hz, hkk⟩ := hQa
    cases hw0
    rw [h00] at hz hkk
    obtain ⟨w, L', σ', adr', rfl, hq, hP', hD', hG', hW', ha', hle, hnew⟩ := hres
    have hI' : gIn mc ms R s D adr0 n0 adr' T'.heap (locs ++ Lc) (cells + mc') (slots + ms') L' σ' := by
      refine ⟨by rw [e1]; exact hP', hD'.weaken (fun k q _ h => hup _ h), hG', ⟨Nat.le_trans i4.1 (by rw [e1]; exact hz), fun q h1 h2 => ?_, fun q hq => ?_⟩, fun k hk => (ha' k (by omega)).trans (i5 k hk), by omega, fun k h1 h2 => ?_, by omega, by omega⟩
      · rw [e1, hkk q (Nat.lt_of_lt_of_le h1 i4.1) (fun z => h2 (hup q z))]
        exact i4.2.1 q h1 h2
      · rcases List.mem_append.mp hq with h | h
        · exact i4.2.2 q h
        · exact hup _ (hL q h)
      · by_cases h3 : k < L.length
        · rw [ha' k h3]; exact i7 k h1 h3
        · exact Nat.le_trans i4.1 (hnew k (by omega) h2)
    have hF' : gFr adr' b M.2.2.1 L'.length ls (gPush w st) lsM :=
      ⟨gLs_agree ha' hF.2.1 hF.1, fun v hv => gW_up hle (hF.2.1 v hv), gPush_W hW' (fun v hv => gW_up hle (hws v hv))⟩
    have kk := k w L' σ' hq p l e R s m args below meth c D adr0 b n0 Qf C hret adr' T'.heap (locs ++ Lc) (cells + mc') (slots + ms') lsM hI' hF'
    rw [← gPush_map, gC_agrees ha' hws] at kk
    obtain ⟨t2, a1, b1⟩ := kk T' rfl X'
    exact ⟨t2, hgo t2 a1, b1⟩
  · rw [h00] at hz hkk
    obtain ⟨w, L', σ', adr', -, ⟨-, hq⟩, hP', hD', hG', hW', ha', hle, hnew⟩ := hres
    have hS' : va_S (gA adr0 n0 s.heap.size) s.heap T'.heap (locs ++ Lc) := by
      refine ⟨Nat.le_trans i4.1 (by rw [e1]; exact hz), fun q h1 h2 => ?_, fun q hq => ?_⟩
      · rw [e1, hkk q (Nat.lt_of_lt_of_le h1 i4.1) (fun z => h2 (hup q z))]
        exact i4.2.1 q h1 h2
      · rcases List.mem_append.mp hq with h | h
        · exact i4.2.2 q h
        · exact hup _ (hL q h)
    have hI' : gIn mc ms R s D adr0 n0 adr' T'.heap (locs ++ Lc) (cells + mc') (slots + ms') L' σ' := by
      refine ⟨by rw [e1]; exact hP', hD'.weaken (fun k q _ h => hup _ h), hG', hS', fun k hk => (ha' k (by omega)).trans (i5 k hk), by omega, fun k h1 h2 => ?_, by omega, by omega⟩
      by_cases h3 : k < L.length
      · rw [ha' k h3]; exact i7 k h1 h3
      · exact Nat.le_trans i4.1 (hnew k (by omega) h2)
    have hxt := C.2.2.2.2.2.2.2.2.2.2.2.2 _ htab
    have hwc : vx_W p l e R s m args below meth c T'.heap (locs ++ Lc) (cells + mc') (slots + ms') Qf (F0 m pc lsM (st.map (gC adr b))) q := by
      refine vx_catch (name := gEx) (E := gEx) (ce := ce) C.2.2.2.1 [] ⟨s0, e0, h0, ct⟩ [] hxt (fun z hz => by cases hz) (by simp [hcov.1, hcov.2]) hct (C.2.2.2.2.1 _ hcl) (va_Nw.use rfl (hZ.1 _ hcast rfl)) (by rw [e1]; exact hce) hcv hcls ?_
      have hls' := gLs_agree ha' hF.2.1 hF.1
      have go : ∀ lsM' : Array Slot, lv_has lsM' M.2.2.1 ((fi, .ref q) :: (gLv adr' b ls).filter (fun q => !(q.1 == fi) && !(q.1 + 1 == fi && q.2.category == 2))) → W p l e R s m args below meth c T'.heap (locs ++ Lc) (cells + mc') (slots + ms') Qf (F0 m hp' lsM' []) := by
        intro lsM' h'
        exact kx L' σ' hq p l e R s m args below meth c D adr0 b n0 Qf C hret adr' T'.heap (locs ++ Lc) (cells + mc') (slots + ms') lsM' hI' ⟨gSt1_lsX hls' hfi h', gSt1_W (fun v hv => gW_up hle (hF.2.1 v hv)) trivial, fun v h => by cases h⟩
      rcases hh with ⟨f, hd1, hf, rfl⟩ | ⟨hd1, rfl⟩
      · exact lv_astore_n C.1 C.2.1 hd1 hf (gLv_has hls') hfi rfl go
      · exact lv_astore C.1 C.2.1 hd1 (gLv_has hls') hfi rfl go
    obtain ⟨t2, a1, b1⟩ := hwc T' rfl X'
    exact ⟨t2, hst.trans a1, b1⟩
theorem wg_callSW {M' : gM} {hh : List (Nat × Nat × Nat × Nat)} {idx n d' mc' ms' : Nat} {av st0 : List gV} {Q' : gV → List gK → gH → Prop} (hini : Cond.initialized M'.1.cls ∈ gG) (hcode : Cond.codeWith M'.1 M'.2.1 M'.2.2.1 M'.2.2.2.1 hh ∈ gG) (hy : M'.1.cls ≠ "java/lang/invoke/MethodHandle" ∧ M'.1.cls ≠ "java/lang/invoke/VarHandle" ∧ (parseMethodDescriptor M'.1.desc).map (fun d => d.parameters.length) = some n) (hml : M'.2.2.1 ≤ 45) (hstat : Cond.static M'.1 ∈ gG) (hlink : Cond.methodLink M.1.cls idx M'.1 ∈ gG) (hn : av.length = n) (hst : st0 = av.reverse ++ st) (hcat : gCat st ≤ 8) (hdd : d' + 1 ≤ d) (hd : decode M.2.1 pc = .ok (.invokestatic idx, 3))
    (hM : gMtW M' hh d' mc' ms' av L σ Q') (k : ∀ v L' σ', Q' v L' σ' → gWp M d mc ms Q L' σ' (pc + 3) ls (gPush v st)) : gWp M d (mc' + mc) (ms' + ms) Q L σ pc ls st0 := by
  subst hst
  intro p l e R s m args below meth c D adr0 b n0 Qf C hret adr H locs cells slots lsM hI hF
  have hws : ∀ v ∈ st, gW L.length v := fun v hv => hF.2.2 v (List.mem_append_right _ hv)
  have hwa : ∀ v ∈ av, gW L.length v := fun v hv => hF.2.2 v (List.mem_append_left _ (List.mem_reverse.mpr hv))
  have hc0 : p.tables.exec = Jvm.exec ∧ c.code = M.2.1 ∧ c.maxLocals = M.2.2.1 ∧ s.vm.findClass M.1.cls = some m.cls ∧ ∀ w ∈ gG, w.before args s = true := ⟨C.1, C.2.1, C.2.2.1, C.2.2.2.1, C.2.2.2.2.1⟩
  refine gcall_end k C hret hI hF.1 hF.2.1 hws (a := (av.map (gC adr b)).toArray) ?_
  refine vx_runSW (As := av.map (gC adr b)) (n := n) hc0 (hM l C.2.2.2.2.2.2.2.2.1 D adr b H.size) (vx_cwSW n C.2.2.2.2.1 (gGood_in fun w hw => ?_) rfl rfl rfl hy ⟨?_, ?_⟩) ⟨gPc_blind, fun U hU hW => gPc_in hI C.2.2.2.2.2.1 C.2.2.2.2.2.2.2.2.2.2.1 hwa U hU hW⟩ rfl (by rw [List.length_map]; exact hn) hF.1.1 (by simp [List.map_reverse]) ?_ hd ⟨?_, ?_⟩
  · rcases List.mem_append.mp hw with hw | hw
    · simp only [List.mem_cons, List.not_mem_nil, or_false] at hw
      rcases hw with rfl | rfl | rfl
      · exact hlink
      · exact hstat
      · exact hini
    · rcases List.mem_cons.mp hw with rfl | hw
      · exact hcode
      · exact hw
  · have := C.2.2.2.2.2.2.1
    show d' + 1 ≤ R.frames
    omega
  · have := C.2.2.2.2.2.2.2.1
    show 8 + (M'.2.2.1 + 11) + 64 * d' ≤ R.locals
    omega
  · rw [gCat_of]
    show 2 * 0 + gCat st ≤ 8
    omega
  · have := hI.2.2.2.2.2.2.2.1
    omega
  · have := hI.2.2.2.2.2.2.2.2
    omega
end GQ
