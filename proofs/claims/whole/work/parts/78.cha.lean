/-! chance: binomials, the common divisor -/
def padd : List Nat → List Nat
  | [] => []
  | [a] => [a]
  | a :: b :: l => (a + b) :: padd (b :: l)
def rowN : Nat → List Nat
  | 0 => [1]
  | n + 1 => 1 :: padd (rowN n)
def cN (n k : Nat) : Nat := (rowN n).getD k 0
theorem padd_get : ∀ (l : List Nat) (k : Nat), (padd l).getD k 0 = if l.length ≤ k then 0 else l.getD k 0 + l.getD (k + 1) 0
  | [], k => by simp [padd]
  | [a], 0 => by simp [padd]
  | [a], k + 1 => by simp [padd]
  | a :: b :: l, 0 => by simp [padd]
  | a :: b :: l, k + 1 => by
    have ih := padd_get (b :: l) k
    show (padd (b :: l)).getD k 0 = _
    rw [ih]
    simp
theorem getD_out {l : List Nat} {k : Nat} (h : l.length ≤ k) : l.getD k 0 = 0 := by
  rw [List.getD_eq_getElem?_getD, List.getElem?_eq_none h]
  rfl
theorem cN_0 (n : Nat) : cN n 0 = 1 := by
  cases n <;> rfl
theorem cN_s (n k : Nat) : cN (n + 1) (k + 1) = cN n k + cN n (k + 1) := by
  show (padd (rowN n)).getD k 0 = (rowN n).getD k 0 + (rowN n).getD (k + 1) 0
  rw [padd_get]
  split
  · rename_i h
    rw [getD_out h, getD_out (by omega)]
  · rfl
theorem cN_00 (k : Nat) : cN 0 (k + 1) = 0 := by
  show ([1] : List Nat).getD (k + 1) 0 = 0
  simp
theorem cN_out : ∀ {n k : Nat}, n < k → cN n k = 0
  | 0, 0, h => by omega
  | 0, k + 1, _ => cN_00 k
  | n + 1, 0, h => by omega
  | n + 1, k + 1, h => by rw [cN_s, cN_out (by omega), cN_out (by omega)]
theorem cN_abs : ∀ (n k : Nat), cN (n + 1) (k + 1) * (k + 1) = cN n k * (n + 1)
  | 0, 0 => by decide
  | 0, k + 1 => by rw [cN_out (n := 0 + 1) (by omega), cN_out (n := 0) (by omega), Nat.zero_mul, Nat.zero_mul]
  | n + 1, 0 => by
    have h := cN_abs n 0
    have e := cN_s (n + 1) 0
    have e0 := cN_0 (n + 1)
    have e1 := cN_0 n
    rw [e, Nat.add_mul, h, e0, e1]
    omega
  | n + 1, k + 1 => by
    have h1 := cN_abs n k
    have h2 := cN_abs n (k + 1)
    rw [cN_s (n + 1) (k + 1)]
    have e : (cN (n + 1) (k + 1) + cN (n + 1) (k + 1 + 1)) * (k + 1 + 1) = cN (n + 1) (k + 1) * (k + 1) + cN (n + 1) (k + 1) + cN (n + 1) (k + 1 + 1) * (k + 1 + 1) := by
      rw [Nat.add_mul, Nat.mul_succ]
    rw [e, h1, h2]
    have e2 := cN_s n k
    rw [show cN (n + 1) (k + 1) * (n + 1 + 1) = cN (n + 1) (k + 1) * (n + 1) + cN (n + 1) (k + 1) from Nat.mul_succ _ _]
    have e3 : cN (n + 1) (k + 1) * (n + 1) = cN n k * (n + 1) + cN n (k + 1) * (n + 1) := by rw [e2, Nat.add_mul]
    omega
def rowsOk : Nat → List Nat → Bool
  | 0, r => r.all (fun c => decide (c ≤ 120000000000000000))
  | n + 1, r => r.all (fun c => decide (c ≤ 120000000000000000)) && rowsOk n (1 :: padd r)
theorem rowsOk_at : ∀ (n m : Nat), rowsOk n (rowN m) = true → ∀ j, m ≤ j → j ≤ m + n → ∀ c ∈ rowN j, c ≤ 120000000000000000
  | 0, m, h, j, a, b, c, hc => by
    rw [show j = m by omega] at hc
    exact of_decide_eq_true (List.all_eq_true.mp h c hc)
  | n + 1, m, h, j, a, b, c, hc => by
    have h2 := Bool.and_eq_true_iff.mp (show (_ && _) = true from h)
    by_cases e : j = m
    · rw [e] at hc
      exact of_decide_eq_true (List.all_eq_true.mp h2.1 c hc)
    · exact rowsOk_at n (m + 1) h2.2 j (by omega) (by omega) c hc
set_option maxRecDepth 10000 in
theorem cN_le {n k : Nat} (h : n ≤ 60) : cN n k ≤ 120000000000000000 := by
  have ok : rowsOk 60 (rowN 0) = true := by decide +kernel
  unfold cN
  by_cases e : k < (rowN n).length
  · rw [List.getD_eq_getElem?_getD, List.getElem?_eq_getElem e]
    exact rowsOk_at 60 0 ok n (by omega) (by omega) _ (List.getElem_mem e)
  · rw [getD_out (by omega)]
    omega
theorem cN_pos : ∀ {n k : Nat}, k ≤ n → 0 < cN n k
  | n, 0, _ => by rw [cN_0]; omega
  | 0, k + 1, h => by omega
  | n + 1, k + 1, h => by
    rw [cN_s]
    have := cN_pos (n := n) (k := k) (by omega)
    omega
/-- in how many ways k can be taken of n -/
def CHO (n k : Int) : Int := if k < 0 ∨ n < k then 0 else (cN n.toNat k.toNat : Int)
theorem CHO_in {n k : Int} (h : n ≤ 60) : 0 ≤ CHO n k ∧ CHO n k ≤ 120000000000000000 := by
  unfold CHO
  split
  · omega
  · have := cN_le (n := n.toNat) (k := k.toNat) (by omega)
    omega
theorem CHO_out {n k : Int} (h : n < k) : CHO n k = 0 := if_pos (Or.inr h)
theorem CHO_pos {n k : Int} (h0 : 0 ≤ k) (h1 : k ≤ n) : 0 < CHO n k := by
  unfold CHO
  rw [if_neg (by omega)]
  have := cN_pos (n := n.toNat) (k := k.toNat) (by omega)
  omega
/-- of m + i .. i at a time, one more -/
theorem CHO_step {m i : Int} (h0 : 0 ≤ m) (h1 : 0 ≤ i) : CHO (m + i) i * (m + (i + 1)) = CHO (m + (i + 1)) (i + 1) * (i + 1) := by
  unfold CHO
  rw [if_neg (by omega), if_neg (by omega)]
  have h := cN_abs (m + i).toNat i.toNat
  rw [show (m + (i + 1)).toNat = (m + i).toNat + 1 by omega, show (i + 1).toNat = i.toNat + 1 by omega]
  have h2 : ((cN ((m + i).toNat + 1) (i.toNat + 1) * (i.toNat + 1) : Nat) : Int) = ((cN (m + i).toNat i.toNat * ((m + i).toNat + 1) : Nat) : Int) := by rw [h]
  rw [Int.natCast_mul, Int.natCast_mul] at h2
  rw [show ((i.toNat + 1 : Nat) : Int) = i + 1 by omega, show (((m + i).toNat + 1 : Nat) : Int) = m + (i + 1) by omega] at h2
  exact h2.symm
theorem CHO_0 {n : Int} (h : 0 ≤ n) : CHO n 0 = 1 := by
  unfold CHO
  rw [if_neg (by omega), show (0 : Int).toNat = 0 from rfl, cN_0]
  rfl
theorem CHO_p {n k : Int} (h0 : 0 ≤ n) (h1 : 1 ≤ k) : CHO (n + 1) k = CHO n k + CHO n (k - 1) := by
  unfold CHO
  by_cases e : n + 1 < k
  · rw [if_pos (by omega), if_pos (by omega), if_pos (by omega)]; rfl
  · rw [if_neg (by omega), if_neg (show ¬ (k - 1 < 0 ∨ n < k - 1) by omega)]
    have h := cN_s n.toNat (k - 1).toNat
    rw [show (n + 1).toNat = n.toNat + 1 by omega, show k.toNat = (k - 1).toNat + 1 by omega, h]
    by_cases e2 : n < k
    · rw [if_pos (Or.inr e2), cN_out (n := n.toNat) (k := (k - 1).toNat + 1) (by omega)]
      omega
    · rw [if_neg (by omega), show ((k - 1).toNat + 1) = k.toNat by omega]
      omega
/-- Euclid's way, n steps of it at most -/
def eu : Nat → Int → Int → Int
  | 0, a, _ => a
  | n + 1, a, b => if b = 0 then a else eu n b (a.tmod b)
/-- there are steps enough -/
def euE (n : Nat) (a b : Int) : Prop := a.natAbs * b.natAbs < 2 ^ n ∧ b.natAbs ≤ a.natAbs
theorem tmod_abs {a b : Int} : (a.tmod b).natAbs = a.natAbs % b.natAbs := Int.natAbs_tmod a b
theorem euE_s {n : Nat} {a b : Int} (h : euE (n + 1) a b) (hb : b ≠ 0) : euE n b (a.tmod b) := by
  have b0 : 0 < b.natAbs := by omega
  have hr := Nat.mod_lt a.natAbs b0
  unfold euE at *
  rw [tmod_abs]
  refine ⟨?_, by omega⟩
  have h2 : 2 * (a.natAbs % b.natAbs) ≤ a.natAbs := by
    have := Nat.div_add_mod a.natAbs b.natAbs
    have q : 1 ≤ a.natAbs / b.natAbs := Nat.div_pos h.2 b0
    have : b.natAbs * 1 ≤ b.natAbs * (a.natAbs / b.natAbs) := Nat.mul_le_mul_left _ q
    omega
  have h3 : b.natAbs * (2 * (a.natAbs % b.natAbs)) ≤ b.natAbs * a.natAbs := Nat.mul_le_mul_left _ h2
  have h4 : b.natAbs * (2 * (a.natAbs % b.natAbs)) = 2 * (b.natAbs * (a.natAbs % b.natAbs)) := by rw [← Nat.mul_assoc, Nat.mul_comm b.natAbs 2, Nat.mul_assoc]
  have h5 : b.natAbs * a.natAbs = a.natAbs * b.natAbs := Nat.mul_comm _ _
  have h6 : 2 ^ (n + 1) = 2 * 2 ^ n := by rw [Nat.pow_succ, Nat.mul_comm]
  omega
theorem euE_0 {a b : Int} (h : euE 0 a b) : b = 0 := by
  unfold euE at h
  by_cases e : b = 0
  · exact e
  · have : 1 * 1 ≤ a.natAbs * b.natAbs := Nat.mul_le_mul (by omega) (by omega)
    omega
theorem eu_z {n : Nat} {a b : Int} (h : b = 0) : eu n a b = a := by
  cases n
  · rfl
  · exact if_pos h
theorem eu_s {n : Nat} {a b : Int} (h : b ≠ 0) : eu (n + 1) a b = eu n b (a.tmod b) := if_neg h
theorem eu_more : ∀ (n : Nat) {a b : Int}, euE n a b → ∀ m, n ≤ m → eu m a b = eu n a b
  | 0, a, b, h, m, _ => by rw [eu_z (euE_0 h), eu_z (euE_0 h)]
  | n + 1, a, b, h, 0, hm => by omega
  | n + 1, a, b, h, m + 1, hm => by
    by_cases e : b = 0
    · rw [eu_z e, eu_z e]
    · rw [eu_s e, eu_s e, eu_more n (euE_s h e) m (by omega)]
/-- the steps left are enough, from any two longs -/
def euG (m : Nat) (x y : Int) : Prop := y = 0 ∨ ∃ k, m = k + 1 ∧ euE k y (x.tmod y)
theorem euG_of {x y : Int} (h : y.natAbs ≤ 9223372036854775808) : euG 200 x y := by
  by_cases e : y = 0
  · exact Or.inl e
  · refine Or.inr ⟨199, rfl, ?_⟩
    have b0 : 0 < y.natAbs := by omega
    have hr := Nat.mod_lt x.natAbs b0
    unfold euE
    rw [tmod_abs]
    refine ⟨?_, by omega⟩
    have h1 : y.natAbs * (x.natAbs % y.natAbs) ≤ 9223372036854775808 * 9223372036854775808 := Nat.mul_le_mul h (by omega)
    have h3 : (9223372036854775808 * 9223372036854775808 : Nat) < 2 ^ 199 := by decide
    omega
theorem euG_s {m : Nat} {x y : Int} (h : euG m x y) (hy : y ≠ 0) : ∃ k, m = k + 1 ∧ euG k y (x.tmod y) := by
  rcases h with h | ⟨k, rfl, h⟩
  · exact absurd h hy
  · refine ⟨k, rfl, ?_⟩
    by_cases e : x.tmod y = 0
    · exact Or.inl e
    · cases k with
      | zero => exact absurd (euE_0 h) e
      | succ k => exact Or.inr ⟨k, rfl, euE_s h e⟩
theorem eu_ne : ∀ (n : Nat) {x y : Int}, euG n x y → (x ≠ 0 ∨ y ≠ 0) → eu n x y ≠ 0
  | 0, x, y, h, hn => by
    rcases h with h | ⟨k, e, _⟩
    · rcases hn with hn | hn
      · exact hn
      · exact absurd h hn
    · cases e
  | n + 1, x, y, h, hn => by
    by_cases e : y = 0
    · rw [eu_z e]
      rcases hn with hn | hn
      · exact hn
      · exact absurd e hn
    · rw [eu_s e]
      obtain ⟨k, e2, h2⟩ := euG_s h e
      cases e2
      exact eu_ne n h2 (Or.inl e)
/-- the ways with as many links or more, as longs -/
def wyT (v d w l i : Int) : Int := if l ≤ i then CHO w i * CHO (v - w) (d - i) else 0
def WYS (v d w l : Int) (n : Nat) : Int := sumI (wyT v d w l) n
theorem WYS_s {v d w l i : Int} (h : 0 ≤ i) : WYS v d w l (i + 1).toNat = WYS v d w l i.toNat + wyT v d w l i := sumI_s h
theorem WYS_0 {v d w l : Int} : WYS v d w l l.toNat = 0 := (sumI_congr (g := fun _ => 0) fun i a b => if_neg (by omega)).trans (sumI_zero _)
/-- no more of them than are warm -/
theorem WYS_end {v d w l i : Int} (h0 : 0 ≤ i) (h : w < i) (hd : i ≤ d + 1) : WYS v d w l (d + 1).toNat = WYS v d w l i.toNat := sumI_ext (by omega) fun j a b => by
  unfold wyT
  rw [CHO_out (by omega), Int.zero_mul, ite_self]
