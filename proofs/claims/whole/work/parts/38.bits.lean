/-! sets of numbers below 64 as bits of a long -/
def bitI (z f : Int) : Prop := gB64 (fun a b => a &&& b) (gS64 (fun a b => a >>> b) z f) 1 ≠ 0
theorem sh_amt : ∀ k : Fin 64, ((Int32.ofInt ((k.val : Nat) : Int)).toInt64 &&& 63).toBitVec.smod 64#64 = BitVec.ofNat 64 k.val := by decide +kernel
theorem sh_at {f : Int} (h0 : 0 ≤ f) (h1 : f < 64) : ((Int32.ofInt f).toInt64 &&& 63).toBitVec.smod 64#64 = BitVec.ofNat 64 f.toNat := by
  have hk := sh_amt ⟨f.toNat, by omega⟩
  have ef : ((f.toNat : Nat) : Int) = f := Int.toNat_of_nonneg h0
  rw [ef] at hk
  exact hk
theorem gB64_back (op : Int64 → Int64 → Int64) (a b : Int) : Int64.ofInt (gB64 op a b) = op (Int64.ofInt a) (Int64.ofInt b) := gback64 _
theorem gS64_back (op : Int64 → Int64 → Int64) (a b : Int) : Int64.ofInt (gS64 op a b) = op (Int64.ofInt a) ((Int32.ofInt b).toInt64 &&& 63) := gback64 _
theorem bv_and1 (v : BitVec 64) : v &&& 1#64 = 0#64 ↔ v.getLsbD 0 = false := by
  constructor
  · intro h
    have h1 : (v &&& 1#64).getLsbD 0 = false := by rw [h]; rfl
    rw [BitVec.getLsbD_and] at h1
    have h2 : (1#64 : BitVec 64).getLsbD 0 = true := by decide
    rw [h2, Bool.and_true] at h1
    exact h1
  · intro h
    refine BitVec.eq_of_getLsbD_eq fun i hi => ?_
    rw [BitVec.getLsbD_and, BitVec.getLsbD_one, BitVec.getLsbD_zero]
    by_cases e : i = 0
    · subst e
      rw [h]; rfl
    · simp [e]
theorem bitI_iff {z f : Int} (h0 : 0 ≤ f) (h1 : f < 64) : bitI z f ↔ (Int64.ofInt z).toBitVec.getLsbD f.toNat = true := by
  unfold bitI
  have e1 : (Int64.ofInt (gS64 (fun a b => a >>> b) z f)).toBitVec = (Int64.ofInt z).toBitVec.sshiftRight f.toNat := by
    rw [gS64_back]
    show (Int64.ofInt z).toBitVec.sshiftRight' (((Int32.ofInt f).toInt64 &&& 63).toBitVec.smod 64#64) = _
    rw [sh_at h0 h1, BitVec.sshiftRight_eq', BitVec.toNat_ofNat, Nat.mod_eq_of_lt (by omega)]
  have e2 : (gB64 (fun a b => a &&& b) (gS64 (fun a b => a >>> b) z f) 1 = 0) ↔ (Int64.ofInt (gS64 (fun a b => a >>> b) z f)).toBitVec &&& 1#64 = 0#64 := by
    constructor
    · intro h
      have h2 := gB64_back (fun a b => a &&& b) (gS64 (fun a b => a >>> b) z f) 1
      rw [h] at h2
      exact (congrArg Int64.toBitVec h2).symm
    · intro h
      unfold gB64
      have h3 : (Int64.ofInt (gS64 (fun a b => a >>> b) z f) &&& Int64.ofInt 1) = 0 := Int64.toBitVec_inj.mp h
      show (Int64.ofInt (gS64 (fun a b => a >>> b) z f) &&& Int64.ofInt 1).toInt = 0
      rw [h3]
      rfl
  rw [Ne, e2, e1, bv_and1, BitVec.getLsbD_sshiftRight]
  have a1 : decide (64 ≤ 0) = false := by decide
  rw [a1, Nat.add_zero, if_pos (by omega)]
  simp
theorem bit_shl {f g : Int} (h0 : 0 ≤ f) (h1 : f < 64) (g0 : 0 ≤ g) (g1 : g < 64) : (Int64.ofInt (gS64 (fun a b => a <<< b) 1 f)).toBitVec.getLsbD g.toNat = decide (g = f) := by
  have e1 : (Int64.ofInt (gS64 (fun a b => a <<< b) 1 f)).toBitVec = 1#64 <<< f.toNat := by
    rw [gS64_back]
    show (1#64) <<< (((Int32.ofInt f).toInt64 &&& 63).toBitVec.smod 64#64) = _
    rw [sh_at h0 h1, BitVec.shiftLeft_eq', BitVec.toNat_ofNat, Nat.mod_eq_of_lt (by omega)]
  rw [e1, BitVec.getLsbD_shiftLeft, BitVec.getLsbD_one]
  by_cases e : g = f
  · subst e
    simp
    omega
  · by_cases e2 : g < f
    · have : g.toNat < f.toNat := by omega
      simp [this, e]
    · have a : ¬ g.toNat < f.toNat := by omega
      have b : ¬ g.toNat - f.toNat = 0 := by omega
      simp [a, b, e]
theorem bitI_or {a b g : Int} (g0 : 0 ≤ g) (g1 : g < 64) : bitI (gB64 (fun a b => a ||| b) a b) g ↔ bitI a g ∨ bitI b g := by
  rw [bitI_iff g0 g1, bitI_iff g0 g1, bitI_iff g0 g1, gB64_back]
  show ((Int64.ofInt a).toBitVec ||| (Int64.ofInt b).toBitVec).getLsbD g.toNat = true ↔ _
  rw [BitVec.getLsbD_or, Bool.or_eq_true]
theorem bitI_one {f g : Int} (h0 : 0 ≤ f) (h1 : f < 64) (g0 : 0 ≤ g) (g1 : g < 64) : bitI (gS64 (fun a b => a <<< b) 1 f) g ↔ g = f := by
  rw [bitI_iff g0 g1, bit_shl h0 h1 g0 g1, decide_eq_true_eq]
theorem bitI_set {a f g : Int} (h0 : 0 ≤ f) (h1 : f < 64) (g0 : 0 ≤ g) (g1 : g < 64) : bitI (gB64 (fun a b => a ||| b) a (gS64 (fun a b => a <<< b) 1 f)) g ↔ bitI a g ∨ g = f := by
  rw [bitI_or g0 g1, bitI_one h0 h1 g0 g1]
theorem bitI_clear {a f g : Int} (h0 : 0 ≤ f) (h1 : f < 64) (g0 : 0 ≤ g) (g1 : g < 64) : bitI (gB64 (fun a b => a &&& b) a (gB64 (fun a b => a ^^^ b) (gS64 (fun a b => a <<< b) 1 f) (-1))) g ↔ bitI a g ∧ g ≠ f := by
  rw [bitI_iff g0 g1, bitI_iff g0 g1, gB64_back, gB64_back]
  show ((Int64.ofInt a).toBitVec &&& ((Int64.ofInt (gS64 (fun a b => a <<< b) 1 f)).toBitVec ^^^ (Int64.ofInt (-1)).toBitVec)).getLsbD g.toNat = true ↔ _
  rw [BitVec.getLsbD_and, BitVec.getLsbD_xor, bit_shl h0 h1 g0 g1, Bool.and_eq_true]
  have e : (Int64.ofInt (-1)).toBitVec = BitVec.allOnes 64 := by decide
  rw [e, BitVec.getLsbD_allOnes]
  have e2 : decide (g.toNat < 64) = true := decide_eq_true (by omega)
  rw [e2]
  by_cases e3 : g = f
  · simp [e3]
  · simp [e3]
theorem bitI_0 {g : Int} (g0 : 0 ≤ g) (g1 : g < 64) : ¬ bitI 0 g := by
  rw [bitI_iff g0 g1]
  have e : (Int64.ofInt 0).toBitVec = 0#64 := by decide
  rw [e, BitVec.getLsbD_zero]
  decide
theorem bitI_m1 {g : Int} (g0 : 0 ≤ g) (g1 : g < 64) : bitI (-1) g := by
  rw [bitI_iff g0 g1]
  have e : (Int64.ofInt (-1)).toBitVec = BitVec.allOnes 64 := by decide
  rw [e, BitVec.getLsbD_allOnes]
  exact decide_eq_true (by omega)
theorem gB64_in (op : Int64 → Int64 → Int64) (a b : Int) : gi64 (gB64 op a b) := gto64 _
theorem gS64_in (op : Int64 → Int64 → Int64) (a b : Int) : gi64 (gS64 op a b) := gto64 _
theorem gCmp_0 {x : Int} : gCmp x 0 = 0 ↔ x = 0 := by
  unfold gCmp
  split
  · omega
  · split <;> omega
