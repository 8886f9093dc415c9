/-! the text of the words: String.length and String.charAt -/
def gEq (v : gV) (L : List gK) (σ : gH) : gV → List gK → gH → Prop := fun v' L' σ' => v' = v ∧ L' = L ∧ σ' = σ
theorem gEq_no {n : Int} {L0 : List gK} {σ0 : gH} : ∀ k L σ, ¬ gEq (gI n) L0 σ0 (gX (k + 9)) L σ := fun k L σ h => by cases h.1
theorem gEq_noX {L0 : List gK} {σ0 : gH} : ∀ k L σ, ¬ gEq (gX 1) L0 σ0 (gX (k + 9)) L σ := fun k L σ h => by cases h.1
theorem gBwords : ∀ i, i < 136 → (gWordB.getD i 0).toInt = (gWordB.getD i 0).toInt ∧ gi32 (gWordB.getD i 0).toInt ∧ gB32 (fun a b => a &&& b) (gWordB.getD i 0).toInt 255 = (gWordB.getD i 0).toInt ∧ 0 ≤ (gWordB.getD i 0).toInt ∧ (gWordB.getD i 0).toInt < 128 := by decide +kernel
def gCh (i : Int) : Int := (gWordB.getD i.toNat 0).toInt
theorem gCh_in {i : Int} (h0 : 0 ≤ i) (h1 : i < 136) : 0 ≤ gCh i ∧ gCh i < 128 := (gBwords i.toNat (by omega)).2.2.2
