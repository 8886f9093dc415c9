/-! constructors, nest mates, arrays of references, arraycopy -/
section GI
variable {M : gM} {d mc ms : Nat} {Q : gV → List gK → gH → Prop} {L : List gK} {σ : gH} {pc pc' : Nat} {ls st : List gV}
theorem wg_callI {M' : gM} {idx n d' mc' ms' x : Nat} {av st0 : List gV} {Q' : gV → List gK → gH → Prop} (hm : gMs M' n) (hret0 : M'.2.2.2.1 = none) (hinst : Cond.instanceMethod M'.1 ∈ gG) (hi : M'.1.name = "<init>") (hlink : Cond.methodLink M.1.cls idx M'.1 ∈ gG) (hn : av.length = n) (hst : st0 = av.reverse ++ gR x :: st) (hcat : gCat st ≤ 8) (hdd : d' + 1 ≤ d) (hd : decode M.2.1 pc = .ok (.invokespecial idx, 3)) (hpc : pc + 3 = pc')
    (hM : gMt M' d' mc' ms' (gR x :: av) L σ Q') (k : ∀ v L' σ', Q' v L' σ' → gWp M d mc ms Q L' σ' pc' ls (gPush v st)) : gWp M d (mc' + mc) (ms' + ms) Q L σ pc ls st0 := by
  subst hpc; subst hst
  intro p l e R s m args below meth c D adr0 b n0 Qf C hret adr H locs cells slots lsM hI hF
  have hws : ∀ v ∈ st, gW L.length v := fun v hv => hF.2.2 v (List.mem_append_right _ (List.mem_cons_of_mem _ hv))
  have hwa : ∀ v ∈ gR x :: av, gW L.length v := fun v hv => hF.2.2 v (by
    rcases List.mem_cons.mp hv with rfl | hv
    · exact List.mem_append_right _ List.mem_cons_self
    · exact List.mem_append_left _ (List.mem_reverse.mpr hv))
  have hc0 : p.tables.exec = Jvm.exec ∧ c.code = M.2.1 ∧ c.maxLocals = M.2.2.1 ∧ s.vm.findClass M.1.cls = some m.cls ∧ ∀ w ∈ gG, w.before args s = true := ⟨C.1, C.2.1, C.2.2.1, C.2.2.2.1, C.2.2.2.2.1⟩
  have hts := C.2.2.2.2.1
  refine gcall_end k C hret hI hF.1 hF.2.1 hws (a := (gC adr b (gR x) :: av.map (gC adr b)).toArray) ?_
  refine va_runI (As := av.map (gC adr b)) (n := n) hc0 (hM l C.2.2.2.2.2.2.2.2.1 D adr b H.size) (cwI (bytes := M'.2.1) (maxL := M'.2.2.1) (ws' := gG) n hts (gGood_in (gWords_in hm)) (by unfold gWords; rw [hret0]) rfl rfl (hts _ hm.1) (hts _ hlink) (hts _ hinst) hi hm.2.2.1 ⟨?_, ?_⟩) ⟨gPc_blind, fun U hU hW => gPc_in hI C.2.2.2.2.2.1 C.2.2.2.2.2.2.2.2.2.2.1 hwa U hU hW⟩ rfl (by rw [List.length_map]; exact hn) hF.1.1 (by simp [List.map_reverse]; rfl) ?_ hd ⟨?_, ?_⟩
  · have := C.2.2.2.2.2.2.1
    show d' + 1 ≤ R.frames
    omega
  · have := C.2.2.2.2.2.2.2.1
    have := hm.2.2.2
    show 8 + (M'.2.2.1 + 11) + 64 * d' ≤ R.locals
    omega
  · rw [gCat_of]
    show 2 * 0 + gCat st ≤ 8
    omega
  · have := hI.2.2.2.2.2.2.2.1
    omega
  · have := hI.2.2.2.2.2.2.2.2
    omega
theorem gNest {b : Nat → Nat} {A : Nat → Prop} {U : State} (h : gZ b A U) {own host : String} {idx : Nat} {y : MethodName} (hl : Cond.methodLinkNest own idx y host ∈ tables_1) : va_Nw (.methodLinkNest own idx y host) U := h.1 _ hl rfl
theorem wg_callIN {M' : gM} {idx n d' mc' ms' x : Nat} {host : String} {av st0 : List gV} {Q' : gV → List gK → gH → Prop} (hm : gMs M' n) (hret0 : M'.2.2.2.1 = none) (hinst : Cond.instanceMethod M'.1 ∈ gG) (hi : M'.1.name = "<init>") (hlink : Cond.methodLinkNest M.1.cls idx M'.1 host ∈ tables_1) (hn : av.length = n) (hst : st0 = av.reverse ++ gR x :: st) (hcat : gCat st ≤ 8) (hdd : d' + 1 ≤ d) (hd : decode M.2.1 pc = .ok (.invokespecial idx, 3)) (hpc : pc + 3 = pc')
    (hM : gMt M' d' mc' ms' (gR x :: av) L σ Q') (k : ∀ v L' σ', Q' v L' σ' → gWp M d mc ms Q L' σ' pc' ls (gPush v st)) : gWp M d (mc' + mc) (ms' + ms) Q L σ pc ls st0 := by
  subst hpc; subst hst
  intro p l e R s m args below meth c D adr0 b n0 Qf C hret adr H locs cells slots lsM hI hF
  have hws : ∀ v ∈ st, gW L.length v := fun v hv => hF.2.2 v (List.mem_append_right _ (List.mem_cons_of_mem _ hv))
  have hwa : ∀ v ∈ gR x :: av, gW L.length v := fun v hv => hF.2.2 v (by
    rcases List.mem_cons.mp hv with rfl | hv
    · exact List.mem_append_right _ List.mem_cons_self
    · exact List.mem_append_left _ (List.mem_reverse.mpr hv))
  have hc0 : p.tables.exec = Jvm.exec ∧ c.code = M.2.1 ∧ c.maxLocals = M.2.2.1 ∧ s.vm.findClass M.1.cls = some m.cls ∧ ∀ w ∈ gG, w.before args s = true := ⟨C.1, C.2.1, C.2.2.1, C.2.2.2.1, C.2.2.2.2.1⟩
  have hts := C.2.2.2.2.1
  have hZ := C.2.2.2.2.2.2.2.2.2.2.1
  refine gcall_end k C hret hI hF.1 hF.2.1 hws (a := (gC adr b (gR x) :: av.map (gC adr b)).toArray) ?_
  refine va_runIN (As := av.map (gC adr b)) (n := n) hc0 (hM l C.2.2.2.2.2.2.2.2.1 D adr b H.size) ⟨va_cnB (bytes := M'.2.1) (maxL := M'.2.2.1) (ws' := gG) n hts (gGood_in (gWords_in hm)) (by unfold gWords; rw [hret0]) rfl rfl (gNest hZ hlink) (hts _ hm.1) hm.2.2.1 ⟨?_, ?_⟩, hi, hts _ hinst⟩ ⟨gPc_blind, fun U hU hW => gPc_in hI C.2.2.2.2.2.1 C.2.2.2.2.2.2.2.2.2.2.1 hwa U hU hW⟩ rfl (by rw [List.length_map]; exact hn) hF.1.1 (by simp [List.map_reverse]; rfl) ?_ hd ⟨?_, ?_⟩
  · have := C.2.2.2.2.2.2.1
    show d' + 1 ≤ R.frames
    omega
  · have := C.2.2.2.2.2.2.2.1
    have := hm.2.2.2
    show 8 + (M'.2.2.1 + 11) + 64 * d' ≤ R.locals
    omega
  · rw [gCat_of]
    show 2 * 0 + gCat st ≤ 8
    omega
  · have := hI.2.2.2.2.2.2.2.1
    omega
  · have := hI.2.2.2.2.2.2.2.2
    omega
theorem wg_callSN {M' : gM} {idx n d' mc' ms' : Nat} {host : String} {av st0 : List gV} {Q' : gV → List gK → gH → Prop} (hm : gMs M' n) (hstat : Cond.static M'.1 ∈ gG) (hlink : Cond.methodLinkNest M.1.cls idx M'.1 host ∈ tables_1) (hn : av.length = n) (hst : st0 = av.reverse ++ st) (hcat : gCat st ≤ 8) (hdd : d' + 1 ≤ d) (hd : decode M.2.1 pc = .ok (.invokestatic idx, 3)) (hpc : pc + 3 = pc')
    (hM : gMt M' d' mc' ms' av L σ Q') (k : ∀ v L' σ', Q' v L' σ' → gWp M d mc ms Q L' σ' pc' ls (gPush v st)) : gWp M d (mc' + mc) (ms' + ms) Q L σ pc ls st0 := by
  subst hpc; subst hst
  intro p l e R s m args below meth c D adr0 b n0 Qf C hret adr H locs cells slots lsM hI hF
  have hws : ∀ v ∈ st, gW L.length v := fun v hv => hF.2.2 v (List.mem_append_right _ hv)
  have hwa : ∀ v ∈ av, gW L.length v := fun v hv => hF.2.2 v (List.mem_append_left _ (List.mem_reverse.mpr hv))
  have hc0 : p.tables.exec = Jvm.exec ∧ c.code = M.2.1 ∧ c.maxLocals = M.2.2.1 ∧ s.vm.findClass M.1.cls = some m.cls ∧ ∀ w ∈ gG, w.before args s = true := ⟨C.1, C.2.1, C.2.2.1, C.2.2.2.1, C.2.2.2.2.1⟩
  have hts := C.2.2.2.2.1
  have hZ := C.2.2.2.2.2.2.2.2.2.2.1
  refine gcall_end k C hret hI hF.1 hF.2.1 hws (a := (av.map (gC adr b)).toArray) ?_
  refine va_runSN (As := av.map (gC adr b)) (n := n) hc0 (hM l C.2.2.2.2.2.2.2.2.1 D adr b H.size) ⟨va_cnB (ws' := gG) n hts (gGood_in (gWords_in hm)) rfl rfl rfl (gNest hZ hlink) (hts _ hm.1) hm.2.2.1 ⟨?_, ?_⟩, hts _ hstat, trivial⟩ ⟨gPc_blind, fun U hU hW => gPc_in hI C.2.2.2.2.2.1 C.2.2.2.2.2.2.2.2.2.2.1 hwa U hU hW⟩ rfl (by rw [List.length_map]; exact hn) hF.1.1 (by simp [List.map_reverse]) ?_ hd ⟨?_, ?_⟩
  · have := C.2.2.2.2.2.2.1
    show d' + 1 ≤ R.frames
    omega
  · have := C.2.2.2.2.2.2.2.1
    have := hm.2.2.2
    show 8 + (M'.2.2.1 + 11) + 64 * d' ≤ R.locals
    omega
  · rw [gCat_of]
    show 2 * 0 + gCat st ≤ 8
    omega
  · have := hI.2.2.2.2.2.2.2.1
    omega
  · have := hI.2.2.2.2.2.2.2.2
    omega
theorem wg_objInit {x idx : Nat} (hlink : Cond.methodLink M.1.cls idx Lib.objectInit ∈ gG) (hinst : Cond.instanceMethod Lib.objectInit ∈ gG) (hcode : Cond.code Lib.objectInit ⟨#[0xb1]⟩ 1 none ∈ gG) (hdd : 1 ≤ d) (hd : decode M.2.1 pc = .ok (.invokespecial idx, 3)) (hpc : pc + 3 = pc')
    (k : gWp M d mc ms Q L σ pc' ls []) : gWp M d mc ms Q L σ pc ls [gR x] := by
  subst hpc
  intro p l e R s m args below meth c D adr0 b n0 Qf C hret adr H locs cells slots lsM hI hF
  have hts := C.2.2.2.2.1
  refine W.objInit C.1 C.2.1 C.2.2.2.1 (hts _ hlink) (hts _ hinst) (hts _ hcode) rfl (hF.1.1.trans C.2.2.1.symm) rfl hd ?_ ?_ (k p l e R s m args below meth c D adr0 b n0 Qf C hret adr H locs cells slots lsM hI ⟨hF.1, hF.2.1, fun v h => by cases h⟩)
  · have := C.2.2.2.2.2.2.1; omega
  · have := C.2.2.2.2.2.2.2.1
    show 2 * 0 + 0 + 12 ≤ R.locals
    omega
theorem wg_anewarray {n idx : Nat} (hn : n < 1048576) (hlink : Cond.classLink M.1.cls idx "GiftRegister$Law" ∈ gG) (hd : decode M.2.1 pc = .ok (.anewarray idx, 3)) (hpc : pc + 3 = pc')
    (k : gWp M d mc ms Q (L ++ [.inr (3, n)]) (gUr σ L.length (fun _ => -1)) pc' ls (gR L.length :: st)) : gWp M d (1 + mc) (n + ms) Q L σ pc ls (gI n :: st) := by
  subst hpc
  intro p l e R s m args below meth c D adr0 b n0 Qf C hret adr H locs cells slots lsM hI hF
  have hA : ∀ q, s.heap.size ≤ q → gA adr0 n0 s.heap.size q := fun q h => Or.inr h
  have hi : gi32 (n : Int) := ⟨by omega, by omega⟩
  have hneg : ¬ Int32.ofInt (n : Int) < 0 := fun h => by
    have h2 : Int32.ofInt (n : Int) < Int32.ofInt 0 := h
    rw [glt32 hi (by decide)] at h2
    omega
  have hnat : (Int32.ofInt (n : Int)).toNatClampNeg = n := by rw [gnat32 hi (by omega)]; exact Int.toNat_natCast n
  have h8 := hI.2.2.2.2.2.2.2.1
  have h9 := hI.2.2.2.2.2.2.2.2
  refine va_newq C.1 C.2.1 C.2.2.2.1 (C.2.2.2.2.1 _ hlink) C.2.2.2.2.2.2.2.2.2.2.1.2.1 C.2.2.2.2.2.1 hI.1 hI.2.1 hI.2.2.2.1 hA hneg hnat (by omega) (by omega) (by omega) hd fun q cA H1 hK1 hP1 hD1 hS1 => ?_
  have hc : cA = D.2 3 := by
    have ha := (C.2.2.2.2.2.1.2 3 (D.2 3, .object "GiftRegister$Law") rfl).2
    have hb := (hK1.2 (gTys D).length (cA, .object "GiftRegister$Law") (by simp)).2
    obtain ⟨_, _, _, _, _, a4⟩ := ha
    obtain ⟨_, _, _, _, _, b4⟩ := hb
    exact Option.some.inj (b4.symm.trans a4)
  subst hc
  refine gnew_end (kd := .inr (3, n)) (f := fun _ => -1) (n := n) (fun j hj => ⟨by decide, by omega⟩) (fun v h => List.mem_cons_of_mem _ h) k C hret hI hF (gnew_at hD1 hI.2.2.2.2.1 hI.2.2.2.2.2.1) (fun hh => hh) hP1 hD1 hS1
theorem wg_aast {x n q : Nat} {i : Int} (hk : L[x]? = some (.inr (3, n))) (hq : L[q]? = some (.inl 4)) (h0 : 0 ≤ i) (h1 : i < n) (hd : decode M.2.1 pc = .ok (.aastore, 1)) (hpc : pc + 1 = pc') (k : gWp M d mc ms Q L (gUp σ x i q) pc' ls st) : gWp M d mc ms Q L σ pc ls (gR q :: gI i :: gR x :: st) := by
  subst hpc
  intro p l e R s m args below meth c D adr0 b n0 Qf C hret adr H locs cells slots lsM hI hF
  have hi : gi32 i := gw0 (gw1 hF.2.2)
  have hql : q < L.length := gw0 hF.2.2
  refine va_astq (r := (RX4, TX4, 16)) C.1 C.2.1 C.2.2.2.2.2.1 hI.1 hI.2.1 hI.2.2.2.1 x 3 q 4 (gWs_get hk) rfl (gWs_get hq) rfl (gvpin hi h0 h1) hd fun H1 locs1 hP1 hD1 hS1 => ?_
  have e0 : (va_up (fun j : Nat => gRf adr (σ x j)) (Int32.ofInt i).toNatClampNeg (some (adr q))) = fun j : Nat => gRf adr (if (j : Int) = i then (q : Int) else σ x j) := by
    rw [gnat32 hi h0]
    funext j
    unfold va_up
    by_cases hj : j = i.toNat
    · rw [if_pos hj, if_pos (by omega)]
      unfold gRf
      rw [if_neg (by omega)]
      rfl
    · rw [if_neg hj, if_neg (by omega)]
  rw [e0] at hP1 hD1
  have hse : (gWs D adr L σ).set x (adr x, gE D adr (.inr (3, n)) (fun j => if j = i then (q : Int) else σ x j)) = gWs D adr L (gUp σ x i q) := gWs_set hk
  have hP1 : va_P D.1 vwCl ((gWs D adr L σ).set x (adr x, gE D adr (.inr (3, n)) (fun j => if j = i then (q : Int) else σ x j))) H1 := hP1
  have hD1 : va_D _ ((gWs D adr L σ).set x (adr x, gE D adr (.inr (3, n)) (fun j => if j = i then (q : Int) else σ x j))) := hD1
  rw [hse] at hP1 hD1
  exact k p l e R s m args below meth c D adr0 b n0 Qf C hret adr H1 locs1 cells slots lsM ⟨hP1, hD1, hI.2.2.1.up hk h0 ⟨by omega, by omega⟩, hS1, hI.2.2.2.2⟩ ⟨hF.1, hF.2.1, gw1 (gw1 (gw1 hF.2.2))⟩
end GI
