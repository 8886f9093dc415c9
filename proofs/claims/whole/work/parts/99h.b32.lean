/-! sets of numbers below 32 as bits of an int (gen/mod_b32.py, out of 38.bits) -/
def bit3 (z f : Int) : Prop := gB32 (fun a b => a &&& b) (gB32 (fun a b => a >>> (b &&& 31)) z f) 1 ≠ 0
theorem sh_amt3 : ∀ k : Fin 32, ((Int32.ofInt ((k.val : Nat) : Int))&&& 31).toBitVec.smod 32#32 = BitVec.ofNat 32 k.val := by decide +kernel
theorem sh_at3 {f : Int} (h0 : 0 ≤ f) (h1 : f < 32) : ((Int32.ofInt f)&&& 31).toBitVec.smod 32#32 = BitVec.ofNat 32 f.toNat := by
  have hk := sh_amt3 ⟨f.toNat, by omega⟩
  have ef : ((f.toNat : Nat) : Int) = f := Int.toNat_of_nonneg h0
  rw [ef] at hk
  exact hk
theorem gB32_bk (op : Int32 → Int32 → Int32) (a b : Int) : Int32.ofInt (gB32 op a b) = op (Int32.ofInt a) (Int32.ofInt b) := gback32 _
theorem bv_and13 (v : BitVec 32) : v &&& 1#32 = 0#32 ↔ v.getLsbD 0 = false := by
  constructor
  · intro h
    have h1 : (v &&& 1#32).getLsbD 0 = false := by rw [h]; rfl
    rw [BitVec.getLsbD_and] at h1
    have h2 : (1#32 : BitVec 32).getLsbD 0 = true := by decide
    rw [h2, Bool.and_true] at h1
    exact h1
  · intro h
    refine BitVec.eq_of_getLsbD_eq fun i hi => ?_
    rw [BitVec.getLsbD_and, BitVec.getLsbD_one, BitVec.getLsbD_zero]
    by_cases e : i = 0
    · subst e
      rw [h]; rfl
    · simp [e]
theorem bit3_iff {z f : Int} (h0 : 0 ≤ f) (h1 : f < 32) : bit3 z f ↔ (Int32.ofInt z).toBitVec.getLsbD f.toNat = true := by
  unfold bit3
  have e1 : (Int32.ofInt (gB32 (fun a b => a >>> (b &&& 31)) z f)).toBitVec = (Int32.ofInt z).toBitVec.sshiftRight f.toNat := by
    rw [gB32_bk]
    show (Int32.ofInt z).toBitVec.sshiftRight' (((Int32.ofInt f)&&& 31).toBitVec.smod 32#32) = _
    rw [sh_at3 h0 h1, BitVec.sshiftRight_eq', BitVec.toNat_ofNat, Nat.mod_eq_of_lt (by omega)]
  have e2 : (gB32 (fun a b => a &&& b) (gB32 (fun a b => a >>> (b &&& 31)) z f) 1 = 0) ↔ (Int32.ofInt (gB32 (fun a b => a >>> (b &&& 31)) z f)).toBitVec &&& 1#32 = 0#32 := by
    constructor
    · intro h
      have h2 := gB32_bk (fun a b => a &&& b) (gB32 (fun a b => a >>> (b &&& 31)) z f) 1
      rw [h] at h2
      exact (congrArg Int32.toBitVec h2).symm
    · intro h
      unfold gB32
      have h3 : (Int32.ofInt (gB32 (fun a b => a >>> (b &&& 31)) z f) &&& Int32.ofInt 1) = 0 := Int32.toBitVec_inj.mp h
      show (Int32.ofInt (gB32 (fun a b => a >>> (b &&& 31)) z f) &&& Int32.ofInt 1).toInt = 0
      rw [h3]
      rfl
  rw [Ne, e2, e1, bv_and13, BitVec.getLsbD_sshiftRight]
  have a1 : decide (32 ≤ 0) = false := by decide
  rw [a1, Nat.add_zero, if_pos (by omega)]
  simp
theorem bit_shl3 {f g : Int} (h0 : 0 ≤ f) (h1 : f < 32) (g0 : 0 ≤ g) (g1 : g < 32) : (Int32.ofInt (gB32 (fun a b => a <<< (b &&& 31)) 1 f)).toBitVec.getLsbD g.toNat = decide (g = f) := by
  have e1 : (Int32.ofInt (gB32 (fun a b => a <<< (b &&& 31)) 1 f)).toBitVec = 1#32 <<< f.toNat := by
    rw [gB32_bk]
    show (1#32) <<< (((Int32.ofInt f)&&& 31).toBitVec.smod 32#32) = _
    rw [sh_at3 h0 h1, BitVec.shiftLeft_eq', BitVec.toNat_ofNat, Nat.mod_eq_of_lt (by omega)]
  rw [e1, BitVec.getLsbD_shiftLeft, BitVec.getLsbD_one]
  by_cases e : g = f
  · subst e
    simp
    omega
  · by_cases e2 : g < f
    · have : g.toNat < f.toNat := by omega
      simp [this, e]
    · have a : ¬ g.toNat < f.toNat := by omega
      have b : ¬ g.toNat - f.toNat = 0 := by omega
      simp [a, b, e]
theorem bit3_or {a b g : Int} (g0 : 0 ≤ g) (g1 : g < 32) : bit3 (gB32 (fun a b => a ||| b) a b) g ↔ bit3 a g ∨ bit3 b g := by
  rw [bit3_iff g0 g1, bit3_iff g0 g1, bit3_iff g0 g1, gB32_bk]
  show ((Int32.ofInt a).toBitVec ||| (Int32.ofInt b).toBitVec).getLsbD g.toNat = true ↔ _
  rw [BitVec.getLsbD_or, Bool.or_eq_true]
theorem bit3_one {f g : Int} (h0 : 0 ≤ f) (h1 : f < 32) (g0 : 0 ≤ g) (g1 : g < 32) : bit3 (gB32 (fun a b => a <<< (b &&& 31)) 1 f) g ↔ g = f := by
  rw [bit3_iff g0 g1, bit_shl3 h0 h1 g0 g1, decide_eq_true_eq]
theorem bit3_set {a f g : Int} (h0 : 0 ≤ f) (h1 : f < 32) (g0 : 0 ≤ g) (g1 : g < 32) : bit3 (gB32 (fun a b => a ||| b) a (gB32 (fun a b => a <<< (b &&& 31)) 1 f)) g ↔ bit3 a g ∨ g = f := by
  rw [bit3_or g0 g1, bit3_one h0 h1 g0 g1]
theorem bit3_0 {g : Int} (g0 : 0 ≤ g) (g1 : g < 32) : ¬ bit3 0 g := by
  rw [bit3_iff g0 g1]
  have e : (Int32.ofInt 0).toBitVec = 0#32 := by decide
  rw [e, BitVec.getLsbD_zero]
  decide
