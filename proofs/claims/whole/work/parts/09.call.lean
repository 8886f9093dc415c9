/-! a method's contract out of its body; calls -/
def gFlat (av : List gV) : List gV := av.flatMap fun v => if gIsJ v = true then [v, gX 1] else [v]
def gEnt (av : List gV) (n : Nat) : List gV := gFlat av ++ List.replicate (n - (gFlat av).length) (gX 1)
theorem gFlat_sl {adr b : Nat → Nat} (av : List gV) : (lg_sl (av.map (gC adr b))).length = (gFlat av).length := by
  induction av with
  | nil => rfl
  | cons v av ih =>
    unfold lg_sl gFlat at ih ⊢
    simp only [List.map_cons, List.flatMap_cons, List.length_append, ih]
    cases h : gIsJ v with
    | false => rw [if_neg (by rw [gC_cat1 h]; decide)]; simp
    | true => rw [if_pos (gC_cat2 h)]; simp
theorem gFlat_args {adr b : Nat → Nat} (av : List gV) : ∀ (o i : Nat) (v : gV), (gFlat av)[i]? = some v → v ≠ gX 1 → (o + i, gC adr b v) ∈ lv_args o (av.map (gC adr b)) := by
  induction av with
  | nil => intro o i v h; simp [gFlat] at h
  | cons a av ih =>
    intro o i v h hv
    simp only [List.map_cons, lv_args]
    cases hJ : gIsJ a with
    | false =>
      rw [if_neg (by rw [gC_cat1 hJ]; decide)]
      have hf : gFlat (a :: av) = a :: gFlat av := by simp [gFlat, hJ]
      rw [hf] at h
      cases i with
      | zero =>
        rw [List.getElem?_cons_zero] at h
        cases h
        exact List.mem_cons_self
      | succ i =>
        rw [List.getElem?_cons_succ] at h
        have h2 := ih (o + 1) i v h hv
        rw [show o + 1 + i = o + (i + 1) by omega] at h2
        exact List.mem_cons_of_mem _ h2
    | true =>
      rw [if_pos (gC_cat2 hJ)]
      have hf : gFlat (a :: av) = a :: gX 1 :: gFlat av := by simp [gFlat, hJ]
      rw [hf] at h
      match i, h with
      | 0, h =>
        rw [List.getElem?_cons_zero] at h
        cases h
        exact List.mem_cons_self
      | 1, h =>
        rw [List.getElem?_cons_succ, List.getElem?_cons_zero] at h
        exact absurd (Option.some.inj h).symm hv
      | i + 2, h =>
        rw [List.getElem?_cons_succ, List.getElem?_cons_succ] at h
        have h2 := ih (o + 2) i v h hv
        rw [show o + 2 + i = o + (i + 2) by omega] at h2
        exact List.mem_cons_of_mem _ h2
theorem gFlat_W {n : Nat} {av : List gV} (h : ∀ v ∈ av, gW n v) : ∀ v ∈ gFlat av, gW n v := by
  intro v hv
  obtain ⟨a, ha, h2⟩ := List.mem_flatMap.mp hv
  split at h2
  · rcases List.mem_cons.mp h2 with rfl | h2
    · exact h _ ha
    · rw [List.mem_singleton.mp h2]; trivial
  · rw [List.mem_singleton.mp h2]; exact h _ ha
theorem gEnt_W {n k : Nat} {av : List gV} (h : ∀ v ∈ av, gW n v) : ∀ v ∈ gEnt av k, gW n v := by
  intro v hv
  rcases List.mem_append.mp hv with h1 | h1
  · exact gFlat_W h v h1
  · rw [(List.mem_replicate.mp h1).2]; trivial
theorem gEnt_ls {adr b : Nat → Nat} {av : List gV} {n : Nat} (h : (gFlat av).length ≤ n) : gLs adr b n (gEnt av n) ((lg_sl (av.map (gC adr b)) ++ List.replicate (n - (lg_sl (av.map (gC adr b))).length) Slot.unset).toArray) := by
  have hl := lv_entry (av.map (gC adr b)) (n := n) (by rw [gFlat_sl]; exact h)
  refine ⟨hl.1, by unfold gEnt; rw [List.length_append, List.length_replicate]; omega, hl.2.1, fun i v hi hv => ?_⟩
  refine hl.2.2 (i, gC adr b v) ?_
  unfold gEnt at hi
  by_cases hc : i < (gFlat av).length
  · rw [List.getElem?_append_left hc] at hi
    have := gFlat_args (adr := adr) (b := b) av 0 i v hi hv
    rwa [Nat.zero_add] at this
  · rw [List.getElem?_append_right (by omega)] at hi
    have hm := List.mem_of_getElem? hi
    exact absurd (List.mem_replicate.mp hm).2 hv
theorem gMt.of {M : gM} {d mc ms : Nat} {av : List gV} {L : List gK} {σ : gH} {Q : gV → List gK → gH → Prop} (hp : plainName M.1.cls = true ∧ M.1.cls ≠ "GiftRegisterLaw") (hX : M.2.2.2.2 = none) (hno : ∀ k L σ, ¬ Q (gX (k + 9)) L σ) (hlen : (gFlat av).length ≤ M.2.2.1) (k : gWp M d mc ms Q L σ 0 (gEnt av M.2.2.1) []) : gMt M d mc ms av L σ Q := by
  intro l hfl D adr b sz
  refine Met.ofW (cc := M.2.1) (maxL := M.2.2.1) (ret := M.2.2.2.1) hp.1 rfl ?_
  intro p e s m args below meth c s₁ B hml hv
  obtain ⟨rfl, hsz, hP, hD, hG, hW, hK, hZ⟩ := hv
  have hx := B.exec
  have hb := B.bytes
  have hr := B.returns
  have hts := atoms_spec (ws := gWords M) B.pre
  have hown : s.vm.findClass M.1.cls = some m.cls := findClass_of_methodNamed B.named
  have hlocks := B.notSynchronized
  have hin : meth.name = M.1.name := (name_of_methodNamed B.named B.method).1
  subst hsz
  rw [lg_entry_eq]
  refine k p l e (gRoom d mc ms) s m _ below meth c D adr b L.length _ ⟨hx, hb, hml, hown, fun w hw => hts w (List.mem_cons_of_mem _ hw), hK, Nat.le_refl _, Nat.le_refl _, hfl, fun h => hin.trans h, hZ, fun xs h => (by rw [hX] at h; cases h), fun hh h => (by rw [gTab_none hp.2] at h; cases h)⟩ ?_ adr s.heap [] 0 0 _ ⟨hP, hD, hG, va_S.rf, fun _ _ => rfl, Nat.le_refl _, fun k h1 h2 => by omega, by show 0 + mc ≤ mc; omega, by show 0 + ms ≤ ms; omega⟩ ⟨gEnt_ls hlen, gEnt_W hW, fun v h => by cases h⟩
  intro v L' σ' adr' H locs cells slots lsM pc hq hI hw hrd hlsz
  obtain ⟨i1, i2, i3, i4, i5, i6, i7, i8, i9⟩ := hI
  refine W.widen (k := mc) (n := ms) (Nat.le_trans (Nat.le_add_right _ _) i8) (Nat.le_trans (Nat.le_add_right _ _) i9) ?_
  have hQ : ∀ t : State, t.heap = H → s.WarmedH t.vm → gQc D adr b L s.heap.size Q ((av.map (gC adr b)).toArray) s (.returned (gRv adr' b v)) t := by
    intro t ht hwm
    exact ⟨⟨_, rfl, v, L', σ', adr', rfl, hq, by rw [ht]; exact i1, i2, i3, hw, i5, i6, i7⟩, i4.F ht⟩
  have hf : ∀ q ∈ locs, gA adr L.length s.heap.size q.base := i4.2.2
  rcases hrd with ⟨h1, h2, n, rfl⟩ | ⟨ty, n, h1, h2, rfl, hnr⟩ | ⟨h1, h2, n, rfl⟩ | ⟨C, h1, h2, q, rfl⟩ | ⟨h1, h2, rfl⟩ | ⟨rfl, -⟩
  · exact W.iret hx hb (hr.trans h1) hQ hf h2 hlocks
  · exact W.zret hx hb (hr.trans h1) hnr hQ hf h2 hlocks
  · exact W.lret hx hb (hr.trans h1) hQ hf h2 hlocks
  · exact W.aret hx hb (hr.trans h1) (Or.inl ⟨C, rfl⟩) (Or.inr ⟨_, rfl⟩) hQ hf h2 hlocks
  · exact W.vret hx hb (hr.trans h1) hQ hf h2 hlocks
  · exact absurd hq (hno _ _ _)
theorem gMt.mono {M : gM} {d mc ms : Nat} {av : List gV} {L : List gK} {σ : gH} {Q Q' : gV → List gK → gH → Prop} (h : gMt M d mc ms av L σ Q) (hq : ∀ v L' σ', Q v L' σ' → Q' v L' σ') : gMt M d mc ms av L σ Q' := by
  intro l hfl D adr b sz p e ha hc hk s m args below hf hn hP hK
  obtain ⟨t, o, a1, a2, a3, ⟨⟨⟨v, h1, w, L', σ', adr', h2, h3, h4⟩, h5⟩, h6⟩⟩ := h l hfl D adr b sz p e ha hc hk s m args below hf hn hP hK
  exact ⟨t, o, a1, a2, a3, ⟨⟨⟨v, h1, w, L', σ', adr', h2, hq _ _ _ h3, h4⟩, h5⟩, h6⟩⟩
def gPush (v : gV) (st : List gV) : List gV := match v with
  | .inr (.inr (.inr 1)) => st
  | v => v :: st
def gCat (st : List gV) : Nat := (st.map fun v => if gIsJ v = true then 2 else 1).sum
theorem gCat_of {adr b : Nat → Nat} (st : List gV) : ((st.map (gC adr b)).map fun v => v.category).sum = gCat st := by
  induction st with
  | nil => rfl
  | cons v st ih =>
    unfold gCat at ih ⊢
    simp only [List.map_cons, List.sum_cons, ih]
    cases h : gIsJ v with
    | false => rw [gC_cat1 h]; simp
    | true => rw [gC_cat2 h]; simp
theorem gC_agree {adr adr' b : Nat → Nat} {n : Nat} (h : ∀ k, k < n → adr' k = adr k) {v : gV} (hv : gW n v) : gC adr' b v = gC adr b v := by
  match v, hv with
  | .inl _, _ => rfl
  | .inr (.inl _), _ => rfl
  | .inr (.inr (.inl k)), hv => exact congrArg Value.ref (h k hv)
  | .inr (.inr (.inr _)), _ => rfl
theorem gC_agrees {adr adr' b : Nat → Nat} {n : Nat} (h : ∀ k, k < n → adr' k = adr k) {st : List gV} (hv : ∀ v ∈ st, gW n v) : st.map (gC adr' b) = st.map (gC adr b) := List.map_congr_left fun v hm => gC_agree h (hv v hm)
theorem gLs_agree {adr adr' b : Nat → Nat} {n nL : Nat} (h : ∀ k, k < n → adr' k = adr k) {ls : List gV} (hv : ∀ v ∈ ls, gW n v) {lsM : Array Slot} (hl : gLs adr b nL ls lsM) : gLs adr' b nL ls lsM :=
  ⟨hl.1, hl.2.1, hl.2.2.1, fun i v hi hne => by rw [gC_agree h (hv v (List.mem_of_getElem? hi))]; exact hl.2.2.2 i v hi hne⟩
theorem gW_up {n n' : Nat} (h : n ≤ n') {v : gV} (hv : gW n v) : gW n' v := by
  match v, hv with
  | .inl _, hv => exact hv
  | .inr (.inl _), hv => exact hv
  | .inr (.inr (.inl k)), hv => exact Nat.lt_of_lt_of_le hv h
  | .inr (.inr (.inr _)), _ => trivial
theorem gPush_map {adr b : Nat → Nat} {v : gV} {st : List gV} : (gRv adr b v).toList ++ st.map (gC adr b) = (gPush v st).map (gC adr b) := by
  by_cases h : v = gX 1
  · subst h; rfl
  · unfold gRv gPush
    rw [if_neg h]
    split
    · exact absurd rfl h
    · rfl
theorem gPush_W {n : Nat} {v : gV} {st : List gV} (hv : gW n v) (h : ∀ v ∈ st, gW n v) : ∀ w ∈ gPush v st, gW n w := by
  unfold gPush
  split
  · exact h
  · exact gwc hv h
theorem gA_up {adr0 adr : Nat → Nat} {n0 n sz sz' : Nat} (h1 : ∀ k, k < n0 → adr k = adr0 k) (h2 : ∀ k, n0 ≤ k → k < n → sz ≤ adr k) (h3 : sz ≤ sz') : ∀ q, gA adr n sz' q → gA adr0 n0 sz q := by
  intro q hq
  rcases hq with ⟨k, hk, rfl⟩ | hq
  · by_cases h : k < n0
    · exact Or.inl ⟨k, h, (h1 k h).symm⟩
    · exact Or.inr (h2 k (by omega) hk)
  · exact Or.inr (Nat.le_trans h3 hq)
section GC
variable {M : gM} {d mc ms : Nat} {Q : gV → List gK → gH → Prop} {L : List gK} {σ : gH} {pc pc' : Nat} {ls st : List gV}
/-- behind a call's run -/
theorem gcall_end {Q' : gV → List gK → gH → Prop} {mc' ms' : Nat} (k : ∀ v L' σ', Q' v L' σ' → gWp M d mc ms Q L' σ' (pc + 3) ls (gPush v st))
    {p : Program} {l : Launch} {e : Env} {R : Room} {s : State} {m : MethodId} {args : Array Value} {below : List Frame} {meth : Method} {c : Code} {D : gD} {adr0 b : Nat → Nat} {n0 : Nat} {Qf : State → Prop}
    (C : gCtx M d p l R s m args meth c D adr0 b n0)
    (hret : ∀ (v : gV) (L : List gK) (σ : gH) (adr : Nat → Nat) (H : Heap) (locs : List Loc) (cells slots : Nat) (lsM : Array Slot) (pc : Nat), Q v L σ → gIn (gEc v) (gEs v) R s D adr0 n0 adr H locs cells slots L σ → gW L.length v → gRd M.2.1 pc M.2.2.2.1 v → lsM.size = M.2.2.1 → W p l e R s m args below meth c H locs cells slots Qf (F0 m pc lsM (gRs adr b v)))
    {adr : Nat → Nat} {H : Heap} {locs : List Loc} {cells slots : Nat} {lsM : Array Slot} (hI : gIn (mc' + mc) (ms' + ms) R s D adr0 n0 adr H locs cells slots L σ) (hls : gLs adr b M.2.2.1 ls lsM) (hwl : ∀ v ∈ ls, gW L.length v) (hws : ∀ v ∈ st, gW L.length v) {st0 : List Value} {a : Array Value}
    (hr : va_Run p l e R s m args below meth c H locs cells slots mc' ms' (F0 m pc lsM st0) (st.map (gC adr b)) (gQc D adr b L H.size Q' a) (gA adr L.length H.size)) : W p l e R s m args below meth c H locs cells slots Qf (F0 m pc lsM st0) := by
  intro T hT X
  obtain ⟨v, st₀, t, T', Lc, h0, X', hL, e1, e2, ⟨⟨w0, hw0, hres⟩, hz, hk⟩, hst⟩ := hr T hT X
  cases hw0
  rw [h0] at hz hk
  obtain ⟨w, L', σ', adr', rfl, hq, hP', hD', hG', hW', ha', hle, hnew⟩ := hres
  obtain ⟨i1, i2, i3, i4, i5, i6, i7, i8, i9⟩ := hI
  have hup := gA_up i5 i7 i4.1
  have hI' : gIn mc ms R s D adr0 n0 adr' T'.heap (locs ++ Lc) (cells + mc') (slots + ms') L' σ' := by
    refine ⟨by rw [e1]; exact hP', hD'.weaken (fun k q _ h => hup _ h), hG', ⟨Nat.le_trans i4.1 (by rw [e1]; exact hz), fun q h1 h2 => ?_, fun q hq => ?_⟩, fun k hk => (ha' k (by omega)).trans (i5 k hk), by omega, fun k h1 h2 => ?_, by omega, by omega⟩
    · rw [e1, hk q (Nat.lt_of_lt_of_le h1 i4.1) (fun z => h2 (hup q z))]
      exact i4.2.1 q h1 h2
    · rcases List.mem_append.mp hq with h | h
      · exact i4.2.2 q h
      · exact hup _ (hL q h)
    · by_cases h3 : k < L.length
      · rw [ha' k h3]; exact i7 k h1 h3
      · exact Nat.le_trans i4.1 (hnew k (by omega) h2)
  have hF' : gFr adr' b M.2.2.1 L'.length ls (gPush w st) lsM :=
    ⟨gLs_agree ha' hwl hls, fun v hv => gW_up hle (hwl v hv), gPush_W hW' (fun v hv => gW_up hle (hws v hv))⟩
  have kk := k w L' σ' hq p l e R s m args below meth c D adr0 b n0 Qf C hret adr' T'.heap (locs ++ Lc) (cells + mc') (slots + ms') lsM hI' hF'
  rw [← gPush_map, gC_agrees ha' hws] at kk
  obtain ⟨t2, a1, b1⟩ := kk T' rfl X'
  exact ⟨t2, hst t2 a1, b1⟩
theorem gPc_blind {D : gD} {adr b : Nat → Nat} {sz : Nat} {L : List gK} {σ : gH} {av : List gV} : FrameBlind (gPc D adr b sz L σ av) := by
  intro a U g mk h
  obtain ⟨h1, h2, h3, h4, h5, h6, h7, h8⟩ := h
  exact ⟨h1, h2, h3, h4, h5, h6, va_K.moved (u := U) (U := U.calling g mk a) (Vm.Alike.refl U.vm) h7, h8.blind⟩
theorem gPc_in {mc ms : Nat} {R : Room} {s : State} {D : gD} {adr0 adr b : Nat → Nat} {n0 : Nat} {H : Heap} {locs : List Loc} {cells slots : Nat} {L : List gK} {σ : gH} {av : List gV} (hI : gIn mc ms R s D adr0 n0 adr H locs cells slots L σ) (hK : va_K D.1 vwCl (gTys D) s) (hZ : gZ b (gA adr0 n0 s.heap.size) s) (hw : ∀ v ∈ av, gW L.length v) (U : State) (hU : U.heap = H) (hW : s.WarmedH U.vm) : gPc D adr b H.size L σ av (av.map (gC adr b)).toArray U := by
  obtain ⟨i1, i2, i3, i4, i5, i6, i7, i8, i9⟩ := hI
  refine ⟨rfl, by rw [hU], by rw [hU]; exact i1, i2.weaken (fun k q hk _ => ?_), i3, hw, va_K.moved hW.alike hK, hZ.step hW (fun a h1 h2 => by rw [hU]; exact i4.2.1 a h1 h2) (gA_up i5 i7 i4.1)⟩
  obtain ⟨kd, h1, h2⟩ := gWs_at hk
  exact Or.inl ⟨k, (List.getElem?_eq_some_iff.mp h1).1, by rw [h2]⟩
/-- what the tables say of a method -/
def gMs (M : gM) (n : Nat) : Prop := Cond.initialized M.1.cls ∈ gG ∧ Cond.code M.1 M.2.1 M.2.2.1 M.2.2.2.1 ∈ gG ∧ (M.1.cls ≠ "java/lang/invoke/MethodHandle" ∧ M.1.cls ≠ "java/lang/invoke/VarHandle" ∧ (parseMethodDescriptor M.1.desc).map (fun d => d.parameters.length) = some n) ∧ M.2.2.1 ≤ 45
def gMi (M : gM) (n : Nat) : Prop := gMs M n ∧ Cond.instanceMethod M.1 ∈ gG ∧ Cond.selects M.1.cls M.1 M.1 ∈ gG
def gCi (ci : Nat) (C : String) : Prop := ∃ r : vw_C, vwCl[ci]? = some r ∧ r.1 = C
theorem gWords_in {M' : gM} {n : Nat} (h : gMs M' n) : ∀ w ∈ gWords M', w ∈ gG := fun w hw => by
  rcases List.mem_cons.mp hw with rfl | hw
  · exact h.2.1
  · exact hw
theorem gGood_in {ws : List Cond} (h : ∀ w ∈ ws, w ∈ gG) : GoodIn gG ws := fun w hw => gG_good w (h w hw)
theorem wg_callV {M' : gM} {idx n d' mc' ms' x ci : Nat} {av st0 : List gV} {Q' : gV → List gK → gH → Prop} (hm : gMi M' n) (hlink : Cond.methodLink M.1.cls idx M'.1 ∈ gG) (hn : av.length = n) (hci : gCi ci M'.1.cls) (hk : L[x]? = some (.inl ci)) (hst : st0 = av.reverse ++ gR x :: st) (hcat : gCat st ≤ 8) (hdd : d' + 1 ≤ d) (hd : decode M.2.1 pc = .ok (.invokevirtual idx, 3)) (hpc : pc + 3 = pc')
    (hM : gMt M' d' mc' ms' (gR x :: av) L σ Q') (k : ∀ v L' σ', Q' v L' σ' → gWp M d mc ms Q L' σ' pc' ls (gPush v st)) : gWp M d (mc' + mc) (ms' + ms) Q L σ pc ls st0 := by
  subst hpc; subst hst
  intro p l e R s m args below meth c D adr0 b n0 Qf C hret adr H locs cells slots lsM hI hF
  have hws : ∀ v ∈ st, gW L.length v := fun v hv => hF.2.2 v (List.mem_append_right _ (List.mem_cons_of_mem _ hv))
  have hwa : ∀ v ∈ gR x :: av, gW L.length v := fun v hv => hF.2.2 v (by
    rcases List.mem_cons.mp hv with rfl | hv
    · exact List.mem_append_right _ List.mem_cons_self
    · exact List.mem_append_left _ (List.mem_reverse.mpr hv))
  have hc0 : p.tables.exec = Jvm.exec ∧ c.code = M.2.1 ∧ c.maxLocals = M.2.2.1 ∧ s.vm.findClass M.1.cls = some m.cls ∧ ∀ w ∈ gG, w.before args s = true := ⟨C.1, C.2.1, C.2.2.1, C.2.2.2.1, C.2.2.2.2.1⟩
  obtain ⟨r, hr1, hr2⟩ := hci
  refine gcall_end k C hret hI hF.1 hF.2.1 hws (a := (gC adr b (gR x) :: av.map (gC adr b)).toArray) ?_
  refine va_runV (As := av.map (gC adr b)) (n := n) hc0 (hM l C.2.2.2.2.2.2.2.2.1 D adr b H.size) (cwV n C.2.2.2.2.1 (gGood_in fun w hw => ?_) rfl rfl rfl ⟨rfl, hm.1.2.2.1⟩ ⟨?_, ?_⟩) ⟨gPc_blind, ?_, fun U hU hW => gPc_in hI C.2.2.2.2.2.1 C.2.2.2.2.2.2.2.2.2.2.1 hwa U hU hW⟩ rfl (by rw [List.length_map]; exact hn) hF.1.1 (by simp [List.map_reverse]; rfl) ?_ hd ⟨?_, ?_⟩
  · rcases List.mem_append.mp hw with hw | hw
    · simp only [List.mem_cons, List.not_mem_nil, or_false] at hw
      rcases hw with rfl | rfl | rfl | rfl
      · exact hlink
      · exact hm.2.1
      · exact hm.2.2
      · exact hm.1.1
    · exact gWords_in hm.1 w hw
  · have := C.2.2.2.2.2.2.1
    show d' + 1 ≤ R.frames
    omega
  · have := C.2.2.2.2.2.2.2.1
    have := hm.1.2.2.2
    show 8 + (M'.2.2.1 + 11) + 64 * d' ≤ R.locals
    omega
  · have := va_recv C.2.2.2.2.2.1 hI.1 hr1 (gWs_get hk)
    rw [hr2] at this
    exact this
  · rw [gCat_of]
    show 2 * 0 + gCat st ≤ 8
    omega
  · have := hI.2.2.2.2.2.2.2.1
    omega
  · have := hI.2.2.2.2.2.2.2.2
    omega
theorem wg_callS {M' : gM} {idx n d' mc' ms' : Nat} {av st0 : List gV} {Q' : gV → List gK → gH → Prop} (hm : gMs M' n) (hstat : Cond.static M'.1 ∈ gG) (hlink : Cond.methodLink M.1.cls idx M'.1 ∈ gG) (hn : av.length = n) (hst : st0 = av.reverse ++ st) (hcat : gCat st ≤ 8) (hdd : d' + 1 ≤ d) (hd : decode M.2.1 pc = .ok (.invokestatic idx, 3)) (hpc : pc + 3 = pc')
    (hM : gMt M' d' mc' ms' av L σ Q') (k : ∀ v L' σ', Q' v L' σ' → gWp M d mc ms Q L' σ' pc' ls (gPush v st)) : gWp M d (mc' + mc) (ms' + ms) Q L σ pc ls st0 := by
  subst hpc; subst hst
  intro p l e R s m args below meth c D adr0 b n0 Qf C hret adr H locs cells slots lsM hI hF
  have hws : ∀ v ∈ st, gW L.length v := fun v hv => hF.2.2 v (List.mem_append_right _ hv)
  have hwa : ∀ v ∈ av, gW L.length v := fun v hv => hF.2.2 v (List.mem_append_left _ (List.mem_reverse.mpr hv))
  have hc0 : p.tables.exec = Jvm.exec ∧ c.code = M.2.1 ∧ c.maxLocals = M.2.2.1 ∧ s.vm.findClass M.1.cls = some m.cls ∧ ∀ w ∈ gG, w.before args s = true := ⟨C.1, C.2.1, C.2.2.1, C.2.2.2.1, C.2.2.2.2.1⟩
  refine gcall_end k C hret hI hF.1 hF.2.1 hws (a := (av.map (gC adr b)).toArray) ?_
  refine va_runS (As := av.map (gC adr b)) (n := n) hc0 (hM l C.2.2.2.2.2.2.2.2.1 D adr b H.size) (va_cwS n C.2.2.2.2.1 (gGood_in fun w hw => ?_) rfl rfl rfl hm.2.2.1 ⟨?_, ?_⟩) ⟨gPc_blind, fun U hU hW => gPc_in hI C.2.2.2.2.2.1 C.2.2.2.2.2.2.2.2.2.2.1 hwa U hU hW⟩ rfl (by rw [List.length_map]; exact hn) hF.1.1 (by simp [List.map_reverse]) ?_ hd ⟨?_, ?_⟩
  · rcases List.mem_append.mp hw with hw | hw
    · simp only [List.mem_cons, List.not_mem_nil, or_false] at hw
      rcases hw with rfl | rfl | rfl
      · exact hlink
      · exact hstat
      · exact hm.1
    · exact gWords_in hm w hw
  · have := C.2.2.2.2.2.2.1
    show d' + 1 ≤ R.frames
    omega
  · have := C.2.2.2.2.2.2.2.1
    have := hm.2.2.2
    show 8 + (M'.2.2.1 + 11) + 64 * d' ≤ R.locals
    omega
  · rw [gCat_of]
    show 2 * 0 + gCat st ≤ 8
    omega
  · have := hI.2.2.2.2.2.2.2.1
    omega
  · have := hI.2.2.2.2.2.2.2.2
    omega
end GC
