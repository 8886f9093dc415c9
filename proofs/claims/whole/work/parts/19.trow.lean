/-! while the constructors run: the cells made so far are the first n of the layout -/
theorem tk {x n : Nat} {kd : gK} (h : gL[x]? = some kd) (hx : x < n) : (gL.take n)[x]? = some kd := by
  rw [List.getElem?_take, if_pos hx]; exact h
theorem tk_len {n : Nat} (h : n ≤ 209) : (gL.take n).length = n := by rw [List.length_take, gLen_gL]; omega
theorem tk_app {n : Nat} {kd : gK} (h : gL[n]? = some kd) : gL.take n ++ [kd] = gL.take (n + 1) := by
  rw [List.take_add_one, h]; rfl
section GT
variable {M : gM} {d mc ms mc0 ms0 : Nat} {Q : gV → List gK → gH → Prop} {n n' : Nat} {σ : gH} {pc pc' : Nat} {ls st : List gV}
theorem t_new {idx ci : Nat} {C1 : String} {N1 : Nat} (hk : gL[n]? = some (.inl ci)) (hnw : gNw ci) (hC : ∀ r, vwCl[ci]? = some r → r.1 = C1 ∧ r.2.2 = N1) (hft : ∀ j, gFt ci j ≤ 3) (hlink : Cond.classLink M.1.cls idx C1 ∈ gG) (hd : decode M.2.1 pc = .ok (.new idx, 3)) (hpc : pc + 3 = pc') (hn : n + 1 = n') (hb : mc0 = 1 + mc ∧ ms0 = N1 + ms)
    (k : gWp M d mc ms Q (gL.take n') (gUr σ n (gDf ci)) pc' ls (gR n :: st)) : gWp M d mc0 ms0 Q (gL.take n) σ pc ls st := by
  obtain ⟨rfl, rfl⟩ := hb
  subst hn
  have hlt : n < 209 := by have := (List.getElem?_eq_some_iff.mp hk).1; rw [gLen_gL] at this; exact this
  have hl := tk_len (n := n) (by omega)
  rw [← tk_app hk] at k
  exact wg_new hnw hC hft hlink hd hpc (by rw [hl]; exact k)
theorem t_newarray {N tc : Nat} {ty : FieldType} (hk : gL[n]? = some (.inr (tc, N))) (htc : (tc = 0 ∧ ty = .int) ∨ (tc = 1 ∧ ty = .long) ∨ (tc = 2 ∧ ty = .boolean)) (hN : N < 1048576) (hac : Cond.arrayClass ty ∈ gG) (hd : decode M.2.1 pc = .ok (.newarray (gAt tc), 2)) (hpc : pc + 2 = pc') (hn : n + 1 = n') (hb : mc0 = 1 + mc ∧ ms0 = N + ms)
    (k : gWp M d mc ms Q (gL.take n') (gUr σ n (fun _ => 0)) pc' ls (gR n :: st)) : gWp M d mc0 ms0 Q (gL.take n) σ pc ls (gI (N : Int) :: st) := by
  obtain ⟨rfl, rfl⟩ := hb
  subst hn
  have hlt : n < 209 := by have := (List.getElem?_eq_some_iff.mp hk).1; rw [gLen_gL] at this; exact this
  have hl := tk_len (n := n) (by omega)
  rw [← tk_app hk] at k
  exact wg_newarray htc hN hac hd hpc (by rw [hl]; exact k)
theorem t_anewarray {N idx : Nat} (hk : gL[n]? = some (.inr (3, N))) (hN : N < 1048576) (hlink : Cond.classLink M.1.cls idx "GiftRegister$Law" ∈ gG) (hd : decode M.2.1 pc = .ok (.anewarray idx, 3)) (hpc : pc + 3 = pc') (hn : n + 1 = n') (hb : mc0 = 1 + mc ∧ ms0 = N + ms)
    (k : gWp M d mc ms Q (gL.take n') (gUr σ n (fun _ => -1)) pc' ls (gR n :: st)) : gWp M d mc0 ms0 Q (gL.take n) σ pc ls (gI (N : Int) :: st) := by
  obtain ⟨rfl, rfl⟩ := hb
  subst hn
  have hlt : n < 209 := by have := (List.getElem?_eq_some_iff.mp hk).1; rw [gLen_gL] at this; exact this
  have hl := tk_len (n := n) (by omega)
  rw [← tk_app hk] at k
  exact wg_anewarray hN hlink hd hpc (by rw [hl]; exact k)
/-- a constructor's contract: from n cells to n' cells, the store as h has it -/
def tQ (n' : Nat) (σ' : gH) : gV → List gK → gH → Prop := fun v L s => v = gX 1 ∧ L = gL.take n' ∧ s = σ'
theorem tQ_no {n' : Nat} {σ' : gH} : ∀ k L σ, ¬ tQ n' σ' (gX (k + 9)) L σ := fun k L σ h => by cases h.1
theorem t_callI {M' : gM} {idx np d' mc' ms' x : Nat} {av st0 : List gV} {σ1 : gH} (hm : gMs M' np) (hret0 : M'.2.2.2.1 = none) (hinst : Cond.instanceMethod M'.1 ∈ gG) (hi : M'.1.name = "<init>") (hlink : Cond.methodLink M.1.cls idx M'.1 ∈ gG) (hn : av.length = np) (hst : st0 = av.reverse ++ gR x :: st) (hcat : gCat st ≤ 8) (hdd : d' + 1 ≤ d) (hd : decode M.2.1 pc = .ok (.invokespecial idx, 3)) (hpc : pc + 3 = pc') (hb : mc0 = mc' + mc ∧ ms0 = ms' + ms)
    (hM : gMt M' d' mc' ms' (gR x :: av) (gL.take n) σ (tQ n' σ1)) (k : gWp M d mc ms Q (gL.take n') σ1 pc' ls st) : gWp M d mc0 ms0 Q (gL.take n) σ pc ls st0 := by
  obtain ⟨rfl, rfl⟩ := hb
  refine wg_callI hm hret0 hinst hi hlink hn hst hcat hdd hd hpc hM fun v L' σ' h => ?_
  obtain ⟨rfl, rfl, rfl⟩ := h
  exact k
theorem t_callIN {M' : gM} {idx np d' mc' ms' x : Nat} {host : String} {av st0 : List gV} {σ1 : gH} (hm : gMs M' np) (hret0 : M'.2.2.2.1 = none) (hinst : Cond.instanceMethod M'.1 ∈ gG) (hi : M'.1.name = "<init>") (hlink : Cond.methodLinkNest M.1.cls idx M'.1 host ∈ tables_1) (hn : av.length = np) (hst : st0 = av.reverse ++ gR x :: st) (hcat : gCat st ≤ 8) (hdd : d' + 1 ≤ d) (hd : decode M.2.1 pc = .ok (.invokespecial idx, 3)) (hpc : pc + 3 = pc') (hb : mc0 = mc' + mc ∧ ms0 = ms' + ms)
    (hM : gMt M' d' mc' ms' (gR x :: av) (gL.take n) σ (tQ n' σ1)) (k : gWp M d mc ms Q (gL.take n') σ1 pc' ls st) : gWp M d mc0 ms0 Q (gL.take n) σ pc ls st0 := by
  obtain ⟨rfl, rfl⟩ := hb
  refine wg_callIN hm hret0 hinst hi hlink hn hst hcat hdd hd hpc hM fun v L' σ' h => ?_
  obtain ⟨rfl, rfl, rfl⟩ := h
  exact k
theorem gMt.walkT {av : List gV} {σ' : gH} (hp : plainName M.1.cls = true ∧ M.1.cls ≠ "GiftRegisterLaw") (hX : M.2.2.2.2 = none) (hlen : (gFlat av).length ≤ M.2.2.1) (hls : gEnt av M.2.2.1 = ls) (k : gWp M d mc ms (tQ n' σ') (gL.take n) σ 0 ls []) : gMt M d mc ms av (gL.take n) σ (tQ n' σ') := gMt.of hp hX tQ_no hlen (by rw [hls]; exact k)
/-- sums that are exact -/
theorem t_iinc {L : List gK} {i : Nat} {c x : Int} {ls' : List gV} (h : gi32 (x + c)) (hi : i < M.2.2.1) (hl0 : ls[i]? = some (gI x)) (hls : gSt1 ls i (gI (x + c)) = ls') (hd : decode M.2.1 pc = .ok (.iinc i c, 3)) (hpc : pc + 3 = pc') (k : gWp M d mc ms Q L σ pc' ls' st) : gWp M d mc ms Q L σ pc ls st := wg_iinc hi hl0 (by rw [w32_id h]; exact hls) hd hpc k
end GT
