/-! the law's loop over any two systems that agree call by call -/
section GB
variable {M : gM} {d mc ms : Nat} {Q : gV → List gK → gH → Prop} {L : List gK} {σ : gH} {pc : Nat} {ls st : List gV}
/-- what a local holds may be forgotten -/
theorem gWp.lose {ls' : List gV} (hlen : ls'.length = ls.length) (hh : ∀ (i : Nat) (v : gV), ls'[i]? = some v → v = gX 1 ∨ ls[i]? = some v) (k : gWp M d mc ms Q L σ pc ls' st) : gWp M d mc ms Q L σ pc ls st := by
  intro p l e R s m args below meth c D adr0 b n0 Qf C hret adr H locs cells slots lsM hI hF
  refine k p l e R s m args below meth c D adr0 b n0 Qf C hret adr H locs cells slots lsM hI ⟨⟨hF.1.1, hlen.trans hF.1.2.1, hF.1.2.2.1, fun i v hi hv => ?_⟩, fun v hv => ?_, hF.2.2⟩
  · rcases hh i v hi with h | h
    · exact absurd h hv
    · exact hF.1.2.2.2 i v h hv
  · obtain ⟨i, hi⟩ := List.getElem?_of_mem hv
    rcases hh i v hi with h | h
    · rw [h]; trivial
    · exact hF.2.1 v (List.mem_of_getElem? h)
/-- more room than is wanted -/
theorem gWp.budget {mc' ms' : Nat} (h1 : mc ≤ mc') (h2 : ms ≤ ms') (k : gWp M d mc ms Q L σ pc ls st) : gWp M d mc' ms' Q L σ pc ls st := by
  intro p l e R s m args below meth c D adr0 b n0 Qf C hret adr H locs cells slots lsM hI hF
  obtain ⟨i1, i2, i3, i4, i5, i6, i7, i8, i9⟩ := hI
  exact k p l e R s m args below meth c D adr0 b n0 Qf C hret adr H locs cells slots lsM ⟨i1, i2, i3, i4, i5, i6, i7, by omega, by omega⟩ hF
end GB
/-- an int method of the class and its like in the reference: the same answer, and the invariant again -/
def CI (Inv : gH → Prop) (MC MM : gM) (as : List gV) : Prop := ∀ σ, gGr σ → Inv σ → ∃ (r : Int) (J : gH → Prop), gMt MC 30 0 0 (gR 0 :: as) gL σ (fun v L' σ1 => L' = gL ∧ v = gI r ∧ J σ1) ∧ ∀ σ1, J σ1 → gMt MM 30 0 0 (gR 133 :: as) gL σ1 (fun v L' σ2 => L' = gL ∧ v = gI r ∧ gGr σ2 ∧ Inv σ2)
def CJ (Inv : gH → Prop) (MC MM : gM) (as : List gV) : Prop := ∀ σ, gGr σ → Inv σ → ∃ (r : Int) (J : gH → Prop), gMt MC 30 0 0 (gR 0 :: as) gL σ (fun v L' σ1 => L' = gL ∧ v = gJ r ∧ J σ1) ∧ ∀ σ1, J σ1 → gMt MM 30 0 0 (gR 133 :: as) gL σ1 (fun v L' σ2 => L' = gL ∧ v = gJ r ∧ gGr σ2 ∧ Inv σ2)
/-- a method that may throw, behind the law's wrapper -/
def CX (Inv : gH → Prop) (con : Int → gV) (MW : gM) (hh : List (Nat × Nat × Nat × Nat)) (MM : gM) (as : List gV) : Prop := ∀ σ, gGr σ → Inv σ → ∃ (k r : Int) (J : gH → Prop), (k = 0 ∨ k = 1) ∧ gMtW MW hh 31 1 6 (gR 0 :: (as ++ [gR 208])) gL σ (fun v L' σ1 => L' = gL ∧ v = gI k ∧ (k = 0 → σ1 208 0 = r) ∧ J σ1) ∧
  ∀ σ1, J σ1 → gMt MM 30 0 0 (gR 133 :: as) gL σ1 (fun v L' σ2 => L' = gL ∧ (∃ y, v = con y ∧ (k = 0 → y = r)) ∧ gGr σ2 ∧ Inv σ2 ∧ σ2 133 0 = k ∧ σ2 208 0 = σ1 208 0)
abbrev mLaw (xs : List Int) : gM := (x, code, 8, ret, some xs)
theorem s_thrown (σ : gH) : gMt mX12_thrown 30 0 0 [gR 133] gL σ (fun v L' σ' => L' = gL ∧ v = gI (σ 133 0) ∧ σ' = σ) := by
  refine gMt.of pn_X12 rfl (fun k L σ h => by cases h.2.1) (Nat.le_of_ble_eq_true rfl) ?_
  show gWp _ _ _ _ _ _ _ _ [gR 133] []
  refine wg_aload_n (pc' := 1) (i := 0) (by rfl) (by rfl) dX12_thrown_0 rfl ?_
  refine wg_getI (pc' := 4) fg_X12_244 kd_133 dX12_thrown_1 rfl ?_
  exact wg_ireturn rfl dX12_thrown_4 ⟨rfl, rfl, rfl⟩
theorem gband31 (a : Int) : 0 ≤ gB32 (fun a b => a &&& b) a 31 ∧ gB32 (fun a b => a &&& b) a 31 ≤ 31 := by
  have h : ∀ z : Int32, 0 ≤ (z &&& 31).toInt ∧ (z &&& 31).toInt ≤ 31 := by
    intro z
    have e : (z &&& 31).toBitVec = z.toBitVec &&& 31#32 := rfl
    have hn : (z.toBitVec &&& 31#32).toNat ≤ 31 := by
      rw [BitVec.toNat_and]
      exact Nat.and_le_right
    have ht : (z &&& 31).toInt = ((z.toBitVec &&& 31#32).toNat : Int) := by
      rw [← Int32.toInt_toBitVec, e, BitVec.toInt_eq_toNat_of_lt (by omega)]
    rw [ht]
    omega
  exact h _
