/-! methods that throw NoSuchElementException -/
def gEx : String := "java/util/NoSuchElementException"
def gXc (D : gD) (adr b : Nat → Nat) (L : List gK) (sz : Nat) (T : List gK → gH → Prop) : String → State → State → Prop := fun E st t =>
  E = gEx ∧ gRes D adr b L sz (fun w L' σ' => w = gX 1 ∧ T L' σ') none t ∧ va_F (gA adr L.length sz) st t
/-- a contract of a method that returns or throws -/
def gMx (M : gM) (d mc ms : Nat) (av : List gV) (L : List gK) (σ : gH) (Q : gV → List gK → gH → Prop) (T : List gK → gH → Prop) : Prop :=
  ∀ (l : Launch), l.flags = flags0 → ∀ (D : gD) (adr b : Nat → Nat) (sz : Nat), vx_Met l M.1 (gWords M) (gRoom d mc ms) (gPc D adr b sz L σ av) (gQc D adr b L sz Q) (gXc D adr b L sz T) mc ms (gA adr L.length sz)
def gExN : List String := ["java/lang/RuntimeException", "java/lang/Exception"]
/-- the words of a throw are among the tables' -/
def gAtm (own : String) (ic : Nat) : Bool := (vx_atS own ic gEx gExN).all (fun w => decide (w ∈ gG) || (gNk w && decide (w ∈ tables_1)))
def gSite (M : gM) (pc : Nat) : Prop := ∃ (ik is ic : Nat) (text : String), Cond.classLink M.1.cls ik gEx ∈ gG ∧ (M.1.cls, is, text) ∈ gStr ∧ gAtm M.1.cls ic = true ∧
  (∀ w ∈ Cond.classLink M.1.cls ik gEx :: Cond.initialized gEx :: vx_atS M.1.cls ic gEx gExN, vx_ot w = true) ∧
  decode M.2.1 pc = .ok (.new ik, 3) ∧ decode M.2.1 (pc + 3) = .ok (.dup, 1) ∧
  ((decode M.2.1 (pc + 4) = .ok (.ldc is, 2) ∧ decode M.2.1 (pc + 6) = .ok (.invokespecial ic, 3) ∧ decode M.2.1 (pc + 9) = .ok (.athrow, 1)) ∨
   (decode M.2.1 (pc + 4) = .ok (.ldc_w is, 3) ∧ decode M.2.1 (pc + 7) = .ok (.invokespecial ic, 3) ∧ decode M.2.1 (pc + 10) = .ok (.athrow, 1)))
theorem gtrace {l : Launch} (h : l.flags = flags0) : l.stackTraces = false := by
  unfold Launch.stackTraces
  rw [h]
  decide +kernel
theorem gMx.of {M : gM} {d mc ms pcT : Nat} {av : List gV} {L : List gK} {σ : gH} {Q : gV → List gK → gH → Prop} (hp : plainName M.1.cls = true ∧ M.1.cls ≠ "GiftRegisterLaw") (hX : M.2.2.2.2 = none) (hsite : gSite M pcT) (hini : Cond.initialized gEx ∈ gG) (hq : ∀ k L σ, Q (gX (k + 9)) L σ → k = pcT) (hd6 : 6 ≤ d) (hlen : (gFlat av).length ≤ M.2.2.1) (k : gWp M d mc ms Q L σ 0 (gEnt av M.2.2.1) []) : gMx M d mc ms av L σ Q (fun L' σ' => Q (gX (pcT + 9)) L' σ') := by
  intro l hfl D adr b sz
  refine vx_ofW (cc := M.2.1) (maxL := M.2.2.1) (ret := M.2.2.2.1) hp.1 rfl ?_
  intro p e s m args below meth c s₁ B hml hnoex hv
  obtain ⟨rfl, hsz, hP, hD, hG, hW, hK, hZ⟩ := hv
  have hx := B.exec
  have hb := B.bytes
  have hr := B.returns
  have hts := atoms_spec (ws := gWords M) B.pre
  have htg : ∀ w ∈ gG, w.before ((av.map (gC adr b)).toArray) s = true := fun w hw => hts w (List.mem_cons_of_mem _ hw)
  have hown : s.vm.findClass M.1.cls = some m.cls := findClass_of_methodNamed B.named
  have hlocks := B.notSynchronized
  have hin : meth.name = M.1.name := (name_of_methodNamed B.named B.method).1
  subst hsz
  rw [lg_entry_eq]
  refine k p l e (gRoom d mc ms) s m _ below meth c D adr b L.length _ ⟨hx, hb, hml, hown, htg, hK, Nat.le_refl _, Nat.le_refl _, hfl, fun h => hin.trans h, hZ, fun xs h => (by rw [hX] at h; cases h), fun hh h => (by rw [gTab_none hp.2] at h; cases h)⟩ ?_ adr s.heap [] 0 0 _ ⟨hP, hD, hG, va_S.rf, fun _ _ => rfl, Nat.le_refl _, fun k h1 h2 => by omega, by show 0 + mc ≤ mc; omega, by show 0 + ms ≤ ms; omega⟩ ⟨gEnt_ls hlen, gEnt_W hW, fun v h => by cases h⟩
  intro v L' σ' adr' H locs cells slots lsM pc hq0 hI hw hrd hlsz
  obtain ⟨i1, i2, i3, i4, i5, i6, i7, i8, i9⟩ := hI
  have hf : ∀ q ∈ locs, gA adr L.length s.heap.size q.base := i4.2.2
  have hcell : cells ≤ mc := Nat.le_trans (Nat.le_add_right _ _) i8
  have hslot : slots ≤ ms := Nat.le_trans (Nat.le_add_right _ _) i9
  have hQ : ∀ t : State, t.heap = H → s.WarmedH t.vm → gQc D adr b L s.heap.size Q ((av.map (gC adr b)).toArray) s (.returned (gRv adr' b v)) t := by
    intro t ht hwm
    exact ⟨⟨_, rfl, v, L', σ', adr', rfl, hq0, by rw [ht]; exact i1, i2, i3, hw, i5, i6, i7⟩, i4.F ht⟩
  rcases hrd with ⟨h1, h2, n, rfl⟩ | ⟨ty, n, h1, h2, rfl, hnr⟩ | ⟨h1, h2, n, rfl⟩ | ⟨C, h1, h2, q, rfl⟩ | ⟨h1, h2, rfl⟩ | ⟨rfl, -⟩
  · exact W.widen (k := mc) (n := ms) hcell hslot (vx_ret (W.iret hx hb (hr.trans h1) hQ hf h2 hlocks))
  · exact W.widen (k := mc) (n := ms) hcell hslot (vx_ret (W.zret hx hb (hr.trans h1) hnr hQ hf h2 hlocks))
  · exact W.widen (k := mc) (n := ms) hcell hslot (vx_ret (W.lret hx hb (hr.trans h1) hQ hf h2 hlocks))
  · exact W.widen (k := mc) (n := ms) hcell hslot (vx_ret (W.aret hx hb (hr.trans h1) (Or.inl ⟨C, rfl⟩) (Or.inr ⟨_, rfl⟩) hQ hf h2 hlocks))
  · exact W.widen (k := mc) (n := ms) hcell hslot (vx_ret (W.vret hx hb (hr.trans h1) hQ hf h2 hlocks))
  · have hpc := hq _ _ _ hq0
    subst hpc
    have he : gEsc (gX (pc + 9)) = true := by show decide (9 ≤ pc + 9) = true; simp
    have h8 : cells + 1 ≤ mc := by have : cells + gEc (gX (pc + 9)) ≤ mc := i8; unfold gEc at this; rw [if_pos he] at this; exact this
    have h9 : slots + 6 ≤ ms := by have : slots + gEs (gX (pc + 9)) ≤ ms := i9; unfold gEs at this; rw [if_pos he] at this; exact this
    have hrs : gRs adr' b (gX (pc + 9)) = [] := by unfold gRs; rw [if_pos (Or.inr he)]
    rw [hrs]
    obtain ⟨ik, is, ic, text, hcl, hst, hat, hgood, d0, d3, hdd⟩ := hsite
    obtain ⟨sa, hsa⟩ := hZ.2.2.2.2.1 _ hst
    have hat' : ∀ w ∈ vx_atS M.1.cls ic gEx gExN, w.before ((av.map (gC adr b)).toArray) s = true := by
      intro w hw
      have h1 := List.all_eq_true.mp hat w hw
      simp only [Bool.or_eq_true, Bool.and_eq_true, decide_eq_true_eq] at h1
      rcases h1 with h1 | ⟨h1, h2⟩
      · exact htg w h1
      · have h3 := hZ.1 w h2 h1
        refine va_Nw.use ?_ h3
        cases w <;> first | (exact absurd (show false = true from h1) (by decide)) | rfl
    have hXC : ∀ t : State, s.vm.Alike t.vm → H.size ≤ t.heap.size → (∀ q : Nat, q < H.size → t.heap[q]? = H[q]?) → gXc D adr b L s.heap.size (fun L' σ' => Q (gX (pc + 9)) L' σ') gEx s t := by
      intro t hal hsz hh
      refine ⟨rfl, ⟨gX 1, L', σ', adr', rfl, ⟨rfl, hq0⟩, i1.kept (fun k q hk => hh _ ((i1 k q hk).lt)), i2, i3, trivial, i5, i6, i7⟩, Nat.le_trans i4.1 hsz, fun q h1 h2 => ?_⟩
      rw [hh q (Nat.lt_of_lt_of_le h1 i4.1)]
      exact i4.2.1 q h1 h2
    rcases hdd with ⟨d4, d6, d9⟩ | ⟨d4, d7, d10⟩
    · exact vx_throwS hx hb (gtrace hfl) hown (by decide +kernel) (by decide +kernel) (htg _ hcl) (htg _ hini) hsa hat' hgood hZ.2.2.1 hZ.2.2.2.1 i4 (hlsz.trans hml.symm) d0 d3 d4 d6 d9 (fun x hx => absurd hx (fun h => hnoex x h)) (by show 2 + 3 < d; omega) (by show 0 + (13 * (2 + 1) + 43) ≤ 64 * d; omega) h8 h9 hlocks hXC hf h8 h9
    · exact vx_throwSW hx hb (gtrace hfl) hown (by decide +kernel) (by decide +kernel) (htg _ hcl) (htg _ hini) hsa hat' hgood hZ.2.2.1 hZ.2.2.2.1 i4 (hlsz.trans hml.symm) d0 d3 d4 d7 d10 (fun x hx => absurd hx (fun h => hnoex x h)) (by show 2 + 3 < d; omega) (by show 0 + (13 * (2 + 1) + 43) ≤ 64 * d; omega) h8 h9 hlocks hXC hf h8 h9
