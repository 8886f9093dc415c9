/-! System.arraycopy -/
def gCp (σ : gH) (a a0 : Nat) (sp dp n : Int) : gH := gUr σ a (fun j => if dp ≤ j ∧ j < dp + n then σ a0 (sp + (j - dp)) else σ a j)
theorem gGood.cp {L : List gK} {σ : gH} {a a0 tc n0 n1 : Nat} {sp dp n : Int} (h : gGood L σ) (hk0 : L[a0]? = some (.inr (tc, n0))) (hk1 : L[a]? = some (.inr (tc, n1))) (h1 : 0 ≤ sp) (h2 : 0 ≤ dp) (h3 : 0 ≤ n) (h4 : sp + n ≤ n0) : gGood L (gCp σ a a0 sp dp n) := by
  intro k kd hk j hj
  unfold gCp gUr
  by_cases e : k = a
  · subst e
    rw [hk1] at hk
    cases hk
    rw [if_pos rfl]
    split
    · have := h a0 _ hk0 (sp + ((j : Int) - dp)).toNat (by show _ < n0; omega)
      rw [gcast (by omega)] at this
      exact this
    · exact h k _ hk1 j hj
  · rw [if_neg e]
    exact h k kd hk j hj
theorem gcpE {α : Type} {F : Int → α} {σ : gH} {a a0 : Nat} {sp dp n : Int} (h1 : 0 ≤ sp) (h2 : 0 ≤ dp) (h3 : 0 ≤ n) : va_cpy (fun j : Nat => F (σ a0 j)) (fun j : Nat => F (σ a j)) sp.toNat dp.toNat n.toNat = fun j : Nat => F (if dp ≤ (j : Int) ∧ (j : Int) < dp + n then σ a0 (sp + ((j : Int) - dp)) else σ a j) := by
  funext j
  unfold va_cpy
  by_cases hc : dp.toNat ≤ j ∧ j < dp.toNat + n.toNat
  · rw [if_pos hc, if_pos ⟨by omega, by omega⟩]
    have hz : ((sp.toNat + (j - dp.toNat) : Nat) : Int) = sp + ((j : Int) - dp) := by omega
    show F (σ a0 ((sp.toNat + (j - dp.toNat) : Nat) : Int)) = _
    rw [hz]
  · rw [if_neg hc, if_neg (by omega)]
section GY
variable {M : gM} {d mc ms : Nat} {Q : gV → List gK → gH → Prop} {L : List gK} {σ : gH} {pc pc' : Nat} {ls st : List gV}
theorem gnn32 {i : Int} (h : gi32 i) (h0 : 0 ≤ i) : ¬ Int32.ofInt i < 0 := fun hh => by
  have h2 : Int32.ofInt i < Int32.ofInt 0 := hh
  rw [glt32 h (by decide)] at h2
  omega
theorem wg_copyI {idx a a0 n0 n1 : Nat} {sp dp n : Int} (hlink : Cond.methodLink M.1.cls idx arraycopyName ∈ gG) (hnat : Cond.native arraycopyName ∈ gG) (hstat : Cond.static arraycopyName ∈ gG) (hini : Cond.initialized "java/lang/System" ∈ gG) (hk0 : L[a0]? = some (.inr (0, n0))) (hk1 : L[a]? = some (.inr (0, n1))) (h1 : 0 ≤ sp) (h2 : 0 ≤ dp) (h3 : 0 ≤ n) (h4 : sp + n ≤ n0) (h5 : dp + n ≤ n1) (hcat : gCat st ≤ 8) (hdd : 1 ≤ d) (hd : decode M.2.1 pc = .ok (.invokestatic idx, 3)) (hpc : pc + 3 = pc')
    (k : gWp M d mc ms Q L (gCp σ a a0 sp dp n) pc' ls st) : gWp M d mc ms Q L σ pc ls (gI n :: gI dp :: gR a :: gI sp :: gR a0 :: st) := by
  subst hpc
  intro p l e R s m args below meth c D adr0 b n0' Qf C hret adr H locs cells slots lsM hI hF
  have hts := C.2.2.2.2.1
  have w1 : gi32 n := gw0 hF.2.2
  have w2 : gi32 dp := gw0 (gw1 hF.2.2)
  have w3 : gi32 sp := gw0 (gw1 (gw1 (gw1 hF.2.2)))
  refine va_copyi C.1 C.2.1 (C.2.2.1.trans hF.1.1.symm) C.2.2.2.1 (hts _ hlink) (hts _ hnat) (hts _ hstat) (hts _ hini) C.2.2.2.2.2.1 hI.1 hI.2.1 hI.2.2.2.1 a0 a 0 0 (gWs_get hk0) (gWs_get hk1) rfl rfl rfl (gnn32 w3 h1) (gnn32 w2 h2) (gnn32 w1 h3) (by rw [gnat32 w3 h1, gnat32 w1 h3]; omega) (by rw [gnat32 w2 h2, gnat32 w1 h3]; omega) (fun _ _ => rfl) ?_ ?_ hd fun H1 locs1 hP1 hD1 hS1 => ?_
  · have := C.2.2.2.2.2.2.1; omega
  · have := C.2.2.2.2.2.2.2.1
    have hz := gCat_of (adr := adr) (b := b) st
    have hn : nativeFrameWords "java/lang/System" "arraycopy" 5 = 7 := by decide +kernel
    rw [hz, hn]
    omega
  · rw [gnat32 w3 h1, gnat32 w2 h2, gnat32 w1 h3, gcpE h1 h2 h3] at hP1 hD1
    have hse : (gWs D adr L σ).set a (adr a, gE D adr (.inr (0, n1)) (fun j => if dp ≤ j ∧ j < dp + n then σ a0 (sp + (j - dp)) else σ a j)) = gWs D adr L (gCp σ a a0 sp dp n) := gWs_set hk1
    have hP1 : va_P D.1 vwCl ((gWs D adr L σ).set a (adr a, gE D adr (.inr (0, n1)) (fun j => if dp ≤ j ∧ j < dp + n then σ a0 (sp + (j - dp)) else σ a j))) H1 := hP1
    have hD1 : va_D _ ((gWs D adr L σ).set a (adr a, gE D adr (.inr (0, n1)) (fun j => if dp ≤ j ∧ j < dp + n then σ a0 (sp + (j - dp)) else σ a j))) := hD1
    rw [hse] at hP1 hD1
    exact k p l e R s m args below meth c D adr0 b n0' Qf C hret adr H1 locs1 cells slots lsM ⟨hP1, hD1, hI.2.2.1.cp hk0 hk1 h1 h2 h3 h4, hS1, hI.2.2.2.2⟩ ⟨hF.1, hF.2.1, gw1 (gw1 (gw1 (gw1 (gw1 hF.2.2))))⟩
theorem wg_copyJ {idx a a0 n0 n1 : Nat} {sp dp n : Int} (hlink : Cond.methodLink M.1.cls idx arraycopyName ∈ gG) (hnat : Cond.native arraycopyName ∈ gG) (hstat : Cond.static arraycopyName ∈ gG) (hini : Cond.initialized "java/lang/System" ∈ gG) (hk0 : L[a0]? = some (.inr (1, n0))) (hk1 : L[a]? = some (.inr (1, n1))) (h1 : 0 ≤ sp) (h2 : 0 ≤ dp) (h3 : 0 ≤ n) (h4 : sp + n ≤ n0) (h5 : dp + n ≤ n1) (hcat : gCat st ≤ 8) (hdd : 1 ≤ d) (hd : decode M.2.1 pc = .ok (.invokestatic idx, 3)) (hpc : pc + 3 = pc')
    (k : gWp M d mc ms Q L (gCp σ a a0 sp dp n) pc' ls st) : gWp M d mc ms Q L σ pc ls (gI n :: gI dp :: gR a :: gI sp :: gR a0 :: st) := by
  subst hpc
  intro p l e R s m args below meth c D adr0 b n0' Qf C hret adr H locs cells slots lsM hI hF
  have hts := C.2.2.2.2.1
  have w1 : gi32 n := gw0 hF.2.2
  have w2 : gi32 dp := gw0 (gw1 hF.2.2)
  have w3 : gi32 sp := gw0 (gw1 (gw1 (gw1 hF.2.2)))
  refine va_copyl C.1 C.2.1 (C.2.2.1.trans hF.1.1.symm) C.2.2.2.1 (hts _ hlink) (hts _ hnat) (hts _ hstat) (hts _ hini) C.2.2.2.2.2.1 hI.1 hI.2.1 hI.2.2.2.1 a0 a 1 1 (gWs_get hk0) (gWs_get hk1) rfl rfl rfl (gnn32 w3 h1) (gnn32 w2 h2) (gnn32 w1 h3) (by rw [gnat32 w3 h1, gnat32 w1 h3]; omega) (by rw [gnat32 w2 h2, gnat32 w1 h3]; omega) (fun _ _ => rfl) ?_ ?_ hd fun H1 locs1 hP1 hD1 hS1 => ?_
  · have := C.2.2.2.2.2.2.1; omega
  · have := C.2.2.2.2.2.2.2.1
    have hz := gCat_of (adr := adr) (b := b) st
    have hn : nativeFrameWords "java/lang/System" "arraycopy" 5 = 7 := by decide +kernel
    rw [hz, hn]
    omega
  · rw [gnat32 w3 h1, gnat32 w2 h2, gnat32 w1 h3, gcpE h1 h2 h3] at hP1 hD1
    have hse : (gWs D adr L σ).set a (adr a, gE D adr (.inr (1, n1)) (fun j => if dp ≤ j ∧ j < dp + n then σ a0 (sp + (j - dp)) else σ a j)) = gWs D adr L (gCp σ a a0 sp dp n) := gWs_set hk1
    have hP1 : va_P D.1 vwCl ((gWs D adr L σ).set a (adr a, gE D adr (.inr (1, n1)) (fun j => if dp ≤ j ∧ j < dp + n then σ a0 (sp + (j - dp)) else σ a j))) H1 := hP1
    have hD1 : va_D _ ((gWs D adr L σ).set a (adr a, gE D adr (.inr (1, n1)) (fun j => if dp ≤ j ∧ j < dp + n then σ a0 (sp + (j - dp)) else σ a j))) := hD1
    rw [hse] at hP1 hD1
    exact k p l e R s m args below meth c D adr0 b n0' Qf C hret adr H1 locs1 cells slots lsM ⟨hP1, hD1, hI.2.2.1.cp hk0 hk1 h1 h2 h3 h4, hS1, hI.2.2.2.2⟩ ⟨hF.1, hF.2.1, gw1 (gw1 (gw1 (gw1 (gw1 hF.2.2))))⟩
end GY
