/-! a law's condition: marks told one behind another, each link behind the two that it joins; the pure side -/
/-- the answers that stand open behind k marks, the last above -/
def stV (mk tv : Int → Int) : Nat → Int → Int
  | 0 => fun _ => 0
  | k + 1 => if mk k = 14 then updI (stV mk tv k) (htM mk k - 1) (if stV mk tv k (htM mk k - 1) = 0 then 1 else 0)
    else if mk k = 15 then updI (stV mk tv k) (htM mk k - 2) (if stV mk tv k (htM mk k - 2) ≠ 0 ∧ stV mk tv k (htM mk k - 1) ≠ 0 then 1 else 0)
    else if mk k = 16 then updI (stV mk tv k) (htM mk k - 2) (if stV mk tv k (htM mk k - 2) ≠ 0 ∨ stV mk tv k (htM mk k - 1) ≠ 0 then 1 else 0)
    else updI (stV mk tv k) (htM mk k) (tv k)
theorem htM_neg {mk : Int → Int} {k : Nat} (h : htM mk k < 0) : htM mk (k + 1) < 0 := by
  show (if htM mk k < 0 then (-1 : Int) else _) < 0
  rw [if_pos h]; omega
theorem htM_pos {mk : Int → Int} {n : Nat} (h : 0 ≤ htM mk n) : ∀ k : Nat, k ≤ n → 0 ≤ htM mk k := by
  intro k hk
  by_cases e : 0 ≤ htM mk k
  · exact e
  · exfalso
    have go : ∀ j : Nat, htM mk (k + j) < 0 := by
      intro j
      induction j with
      | zero => rw [Nat.add_zero]; omega
      | succ j ih => exact htM_neg ih
    have := go (n - k)
    rw [show k + (n - k) = n by omega] at this
    omega
/-- one mark more: what it wants, what it leaves -/
theorem htM_step {mk : Int → Int} {k : Nat} (h0 : 0 ≤ htM mk k) (h : 0 ≤ htM mk (k + 1)) : (mk k = 14 → 1 ≤ htM mk k ∧ htM mk (k + 1) = htM mk k) ∧ (mk k = 15 ∨ mk k = 16 → 2 ≤ htM mk k ∧ htM mk (k + 1) = htM mk k - 1) ∧ (mk k ≠ 14 → mk k ≠ 15 → mk k ≠ 16 → htM mk (k + 1) = htM mk k + 1) := by
  have e : htM mk (k + 1) = if htM mk k < 0 then -1 else if mk k = 14 then (if 1 ≤ htM mk k then htM mk k else -1) else if mk k = 15 ∨ mk k = 16 then (if 2 ≤ htM mk k then htM mk k - 1 else -1) else htM mk k + 1 := rfl
  rw [if_neg (by omega)] at e
  refine ⟨fun c => ?_, fun c => ?_, fun a b c => ?_⟩
  · rw [if_pos c] at e
    by_cases l : 1 ≤ htM mk k
    · rw [if_pos l] at e; exact ⟨l, e⟩
    · rw [if_neg l] at e; omega
  · rw [if_neg (by omega), if_pos c] at e
    by_cases l : 2 ≤ htM mk k
    · rw [if_pos l] at e; exact ⟨l, e⟩
    · rw [if_neg l] at e; omega
  · rw [if_neg a, if_neg (by omega)] at e
    exact e
theorem stV_01 {mk tv : Int → Int} (ht : ∀ k, tv k = 0 ∨ tv k = 1) : ∀ (k : Nat) (j : Int), stV mk tv k j = 0 ∨ stV mk tv k j = 1
  | 0, _ => Or.inl rfl
  | k + 1, j => by
    show (if mk k = 14 then updI (stV mk tv k) (htM mk k - 1) (if stV mk tv k (htM mk k - 1) = 0 then 1 else 0)
    else if mk k = 15 then updI (stV mk tv k) (htM mk k - 2) (if stV mk tv k (htM mk k - 2) ≠ 0 ∧ stV mk tv k (htM mk k - 1) ≠ 0 then 1 else 0)
    else if mk k = 16 then updI (stV mk tv k) (htM mk k - 2) (if stV mk tv k (htM mk k - 2) ≠ 0 ∨ stV mk tv k (htM mk k - 1) ≠ 0 then 1 else 0)
    else updI (stV mk tv k) (htM mk k) (tv k)) j = 0 ∨ (if mk k = 14 then updI (stV mk tv k) (htM mk k - 1) (if stV mk tv k (htM mk k - 1) = 0 then 1 else 0)
    else if mk k = 15 then updI (stV mk tv k) (htM mk k - 2) (if stV mk tv k (htM mk k - 2) ≠ 0 ∧ stV mk tv k (htM mk k - 1) ≠ 0 then 1 else 0)
    else if mk k = 16 then updI (stV mk tv k) (htM mk k - 2) (if stV mk tv k (htM mk k - 2) ≠ 0 ∨ stV mk tv k (htM mk k - 1) ≠ 0 then 1 else 0)
    else updI (stV mk tv k) (htM mk k) (tv k)) j = 1
    have u : ∀ (i v : Int), (v = 0 ∨ v = 1) → updI (stV mk tv k) i v j = 0 ∨ updI (stV mk tv k) i v j = 1 := fun i v hv => by
      unfold updI
      by_cases e : j = i
      · rw [if_pos e]; exact hv
      · rw [if_neg e]; exact stV_01 ht k j
    have w : ∀ (P : Prop) [Decidable P], (if P then (1 : Int) else 0) = 0 ∨ (if P then (1 : Int) else 0) = 1 := fun P _ => by
      by_cases e : P
      · rw [if_pos e]; exact Or.inr rfl
      · rw [if_neg e]; exact Or.inl rfl
    by_cases a : mk k = 14
    · rw [if_pos a]; exact u _ _ (w _)
    · rw [if_neg a]
      by_cases b : mk k = 15
      · rw [if_pos b]; exact u _ _ (w _)
      · rw [if_neg b]
        by_cases c : mk k = 16
        · rw [if_pos c]; exact u _ _ (w _)
        · rw [if_neg c]; exact u _ _ (ht k)
theorem stV_n {mk tv : Int → Int} {k : Int} (h : 0 ≤ k) : stV mk tv (k + 1).toNat = if mk k = 14 then updI (stV mk tv k.toNat) (htM mk k.toNat - 1) (if stV mk tv k.toNat (htM mk k.toNat - 1) = 0 then 1 else 0)
    else if mk k = 15 then updI (stV mk tv k.toNat) (htM mk k.toNat - 2) (if stV mk tv k.toNat (htM mk k.toNat - 2) ≠ 0 ∧ stV mk tv k.toNat (htM mk k.toNat - 1) ≠ 0 then 1 else 0)
    else if mk k = 16 then updI (stV mk tv k.toNat) (htM mk k.toNat - 2) (if stV mk tv k.toNat (htM mk k.toNat - 2) ≠ 0 ∨ stV mk tv k.toNat (htM mk k.toNat - 1) ≠ 0 then 1 else 0)
    else updI (stV mk tv k.toNat) (htM mk k.toNat) (tv k) := by
  have e : (k + 1).toNat = k.toNat + 1 := by omega
  have e2 : ((k.toNat : Nat) : Int) = k := Int.toNat_of_nonneg h
  rw [e]
  show (if mk (k.toNat : Int) = 14 then updI (stV mk tv k.toNat) (htM mk k.toNat - 1) (if stV mk tv k.toNat (htM mk k.toNat - 1) = 0 then 1 else 0)
    else if mk (k.toNat : Int) = 15 then updI (stV mk tv k.toNat) (htM mk k.toNat - 2) (if stV mk tv k.toNat (htM mk k.toNat - 2) ≠ 0 ∧ stV mk tv k.toNat (htM mk k.toNat - 1) ≠ 0 then 1 else 0)
    else if mk (k.toNat : Int) = 16 then updI (stV mk tv k.toNat) (htM mk k.toNat - 2) (if stV mk tv k.toNat (htM mk k.toNat - 2) ≠ 0 ∨ stV mk tv k.toNat (htM mk k.toNat - 1) ≠ 0 then 1 else 0)
    else updI (stV mk tv k.toNat) (htM mk k.toNat) (tv (k.toNat : Int))) = _
  rw [e2]
/-- the same marks, the same truths: the same answers -/
theorem htM_congr {mk mk' : Int → Int} : ∀ {n : Nat}, (∀ k : Int, 0 ≤ k → k < n → mk k = mk' k) → htM mk n = htM mk' n
  | 0, _ => rfl
  | n + 1, h => by
    show (if htM mk n < 0 then (-1 : Int) else if mk n = 14 then (if 1 ≤ htM mk n then htM mk n else -1) else if mk n = 15 ∨ mk n = 16 then (if 2 ≤ htM mk n then htM mk n - 1 else -1) else htM mk n + 1) = if htM mk' n < 0 then (-1 : Int) else if mk' n = 14 then (if 1 ≤ htM mk' n then htM mk' n else -1) else if mk' n = 15 ∨ mk' n = 16 then (if 2 ≤ htM mk' n then htM mk' n - 1 else -1) else htM mk' n + 1
    rw [htM_congr (fun k a b => h k a (by omega)), h n (by omega) (by omega)]
theorem stV_congr {mk mk' tv tv' : Int → Int} : ∀ {n : Nat}, (∀ k : Int, 0 ≤ k → k < n → mk k = mk' k ∧ (mk k ≠ 14 → mk k ≠ 15 → mk k ≠ 16 → tv k = tv' k)) → stV mk tv n = stV mk' tv' n
  | 0, _ => rfl
  | n + 1, h => by
    have h1 := h n (by omega) (by omega)
    have e1 := htM_congr (mk := mk) (mk' := mk') (n := n) (fun k a b => (h k a (by omega)).1)
    show (if mk n = 14 then updI (stV mk tv n) (htM mk n - 1) (if stV mk tv n (htM mk n - 1) = 0 then 1 else 0)
    else if mk n = 15 then updI (stV mk tv n) (htM mk n - 2) (if stV mk tv n (htM mk n - 2) ≠ 0 ∧ stV mk tv n (htM mk n - 1) ≠ 0 then 1 else 0)
    else if mk n = 16 then updI (stV mk tv n) (htM mk n - 2) (if stV mk tv n (htM mk n - 2) ≠ 0 ∨ stV mk tv n (htM mk n - 1) ≠ 0 then 1 else 0)
    else updI (stV mk tv n) (htM mk n) (tv n)) = (if mk' n = 14 then updI (stV mk' tv' n) (htM mk' n - 1) (if stV mk' tv' n (htM mk' n - 1) = 0 then 1 else 0)
    else if mk' n = 15 then updI (stV mk' tv' n) (htM mk' n - 2) (if stV mk' tv' n (htM mk' n - 2) ≠ 0 ∧ stV mk' tv' n (htM mk' n - 1) ≠ 0 then 1 else 0)
    else if mk' n = 16 then updI (stV mk' tv' n) (htM mk' n - 2) (if stV mk' tv' n (htM mk' n - 2) ≠ 0 ∨ stV mk' tv' n (htM mk' n - 1) ≠ 0 then 1 else 0)
    else updI (stV mk' tv' n) (htM mk' n) (tv' n))
    rw [stV_congr (fun k a b => h k a (by omega)), e1, h1.1]
    by_cases a : mk' n = 14
    · rw [if_pos a, if_pos a]
    · by_cases b : mk' n = 15
      · rw [if_neg a, if_neg a, if_pos b, if_pos b]
      · by_cases c : mk' n = 16
        · rw [if_neg a, if_neg a, if_neg b, if_neg b, if_pos c, if_pos c]
        · rw [if_neg a, if_neg a, if_neg b, if_neg b, if_neg c, if_neg c, h1.2 (by rw [h1.1]; exact a) (by rw [h1.1]; exact b) (by rw [h1.1]; exact c)]
/-! the answers as bits of a long: the last is bit 0 -/
def EN (z h : Int) (V : Int → Int) : Prop := ∀ i, 0 ≤ i → i < h → (bitI z i ↔ V (h - 1 - i) ≠ 0)
theorem bv_ofI {z : Int} {i : Int} (h0 : 0 ≤ i) (h1 : i < 64) : bitI z i ↔ (Int64.ofInt z).toBitVec.getLsbD i.toNat = true := bitI_iff h0 h1
theorem bit_1 {i : Int} (h0 : 0 ≤ i) (h1 : i < 64) : bitI 1 i ↔ i = 0 := by
  rw [bitI_iff h0 h1]
  have e : (Int64.ofInt 1).toBitVec = 1#64 := by decide
  rw [e, BitVec.getLsbD_one]
  simp
  omega
theorem bitI_and {a b g : Int} (g0 : 0 ≤ g) (g1 : g < 64) : bitI (gB64 (fun a b => a &&& b) a b) g ↔ bitI a g ∧ bitI b g := by
  rw [bitI_iff g0 g1, bitI_iff g0 g1, bitI_iff g0 g1, gB64_back]
  show ((Int64.ofInt a).toBitVec &&& (Int64.ofInt b).toBitVec).getLsbD g.toNat = true ↔ _
  rw [BitVec.getLsbD_and, Bool.and_eq_true]
theorem bitI_xor1 {a g : Int} (g0 : 0 ≤ g) (g1 : g < 64) : bitI (gB64 (fun a b => a ^^^ b) a 1) g ↔ (if g = 0 then ¬ bitI a g else bitI a g) := by
  rw [bitI_iff g0 g1, gB64_back]
  show ((Int64.ofInt a).toBitVec ^^^ (Int64.ofInt 1).toBitVec).getLsbD g.toNat = true ↔ _
  have e : (Int64.ofInt 1).toBitVec = 1#64 := by decide
  rw [BitVec.getLsbD_xor, e, BitVec.getLsbD_one]
  by_cases c : g = 0
  · subst c
    rw [if_pos rfl, bitI_iff (by omega) (by omega)]
    simp
  · rw [if_neg c, bitI_iff g0 g1]
    have : ¬ g.toNat = 0 := by omega
    simp [this]
theorem bitI_shl1 {a g : Int} (g0 : 0 ≤ g) (g1 : g < 64) : bitI (gS64 (fun a b => a <<< b) a 1) g ↔ (g ≠ 0 ∧ bitI a (g - 1)) := by
  rw [bitI_iff g0 g1]
  have e1 : (Int64.ofInt (gS64 (fun a b => a <<< b) a 1)).toBitVec = (Int64.ofInt a).toBitVec <<< 1 := by
    rw [gS64_back]
    show (Int64.ofInt a).toBitVec <<< (((Int32.ofInt 1).toInt64 &&& 63).toBitVec.smod 64#64) = _
    rw [sh_at (f := 1) (by omega) (by omega)]
    rfl
  rw [e1, BitVec.getLsbD_shiftLeft]
  by_cases c : g = 0
  · subst c; simp
  · rw [bitI_iff (f := g - 1) (by omega) (by omega)]
    have a1 : g.toNat < 64 := by omega
    have a2 : ¬ g.toNat < 1 := by omega
    have a3 : g.toNat - 1 = (g - 1).toNat := by omega
    rw [a3]
    simp [a1, a2, c]
theorem bitI_ushr {a g k : Int} (hk : k = 1 ∨ k = 2) (g0 : 0 ≤ g) (g1 : g + k < 64) : bitI (gS64U a k) g ↔ bitI a (g + k) := by
  rw [bitI_iff g0 (by omega), bitI_iff (by omega) (by omega)]
  have e1 : (Int64.ofInt (gS64U a k)).toBitVec = (Int64.ofInt a).toBitVec >>> k.toNat := by
    unfold gS64U
    rw [gback64]
    rcases hk with rfl | rfl
    · rfl
    · rfl
  rw [e1, BitVec.getLsbD_ushiftRight]
  have : k.toNat + g.toNat = (g + k).toNat := by omega
  rw [this]
theorem EN.start {V : Int → Int} : EN 0 0 V := fun i a b => by omega
theorem EN.not {z h : Int} {V : Int → Int} (hh : 1 ≤ h) (h64 : h ≤ 64) (e : EN z h V) : EN (gB64 (fun a b => a ^^^ b) z 1) h (updI V (h - 1) (if V (h - 1) = 0 then 1 else 0)) := by
  intro i a b
  rw [bitI_xor1 a (by omega)]
  have r := e i a b
  by_cases c : i = 0
  · subst c
    rw [if_pos rfl, r, show h - 1 - 0 = h - 1 by omega, updI_eq]
    split <;> omega
  · rw [if_neg c, r, updI_ne (by omega)]
theorem EN.link {z h : Int} {V : Int → Int} {w : Int} (hh : 2 ≤ h) (h64 : h ≤ 64) (e : EN z h V) (z' : Int) (hz : ∀ i, 0 ≤ i → i < 64 → (bitI z' i ↔ (i ≠ 0 ∧ bitI (gS64U z 2) (i - 1)) ∨ (i = 0 ∧ w ≠ 0))) : EN z' (h - 1) (updI V (h - 2) w) := by
  intro i a b
  rw [hz i a (by omega)]
  by_cases c : i = 0
  · subst c
    rw [show h - 1 - 1 - 0 = h - 2 by omega, updI_eq]
    constructor
    · rintro (⟨h1, _⟩ | ⟨_, h2⟩)
      · exact absurd rfl h1
      · exact h2
    · intro h2; exact Or.inr ⟨rfl, h2⟩
  · rw [updI_ne (by omega), bitI_ushr (Or.inr rfl) (by omega) (by omega), show i - 1 + 2 = i + 1 by omega, e (i + 1) (by omega) (by omega), show h - 1 - (i + 1) = h - 1 - 1 - i by omega]
    constructor
    · rintro (⟨_, h2⟩ | ⟨h1, _⟩)
      · exact h2
      · exact absurd h1 c
    · intro h2; exact Or.inl ⟨c, h2⟩
theorem EN.and {z h : Int} {V : Int → Int} (hh : 2 ≤ h) (h64 : h ≤ 64) (e : EN z h V) : EN (gB64 (fun a b => a ||| b) (gS64 (fun a b => a <<< b) (gS64U z 2) 1) (gB64 (fun a b => a &&& b) (gB64 (fun a b => a &&& b) z (gS64U z 1)) 1)) (h - 1) (updI V (h - 2) (if V (h - 2) ≠ 0 ∧ V (h - 1) ≠ 0 then 1 else 0)) := by
  refine EN.link hh h64 e _ fun i a b => ?_
  rw [bitI_or a b, bitI_shl1 a b, bitI_and a b, bitI_and a b, bit_1 a b]
  refine or_congr Iff.rfl ⟨?_, ?_⟩
  · rintro ⟨⟨h1, h2⟩, h3⟩
    subst h3
    rw [bitI_ushr (Or.inl rfl) a (by omega)] at h2
    have r1 := (e 0 (by omega) (by omega)).mp h1
    have r2 := (e 1 (by omega) (by omega)).mp h2
    rw [show h - 1 - 0 = h - 1 by omega] at r1
    rw [show h - 1 - 1 = h - 2 by omega] at r2
    rw [if_pos ⟨r2, r1⟩]
    exact ⟨rfl, by omega⟩
  · rintro ⟨h1, h2⟩
    subst h1
    by_cases c : V (h - 2) ≠ 0 ∧ V (h - 1) ≠ 0
    · refine ⟨⟨(e 0 (by omega) (by omega)).mpr (by rw [show h - 1 - 0 = h - 1 by omega]; exact c.2), ?_⟩, rfl⟩
      rw [bitI_ushr (Or.inl rfl) a (by omega)]
      exact (e 1 (by omega) (by omega)).mpr (by rw [show h - 1 - 1 = h - 2 by omega]; exact c.1)
    · rw [if_neg c] at h2
      exact absurd rfl h2
theorem EN.or {z h : Int} {V : Int → Int} (hh : 2 ≤ h) (h64 : h ≤ 64) (e : EN z h V) : EN (gB64 (fun a b => a ||| b) (gS64 (fun a b => a <<< b) (gS64U z 2) 1) (gB64 (fun a b => a &&& b) (gB64 (fun a b => a ||| b) z (gS64U z 1)) 1)) (h - 1) (updI V (h - 2) (if V (h - 2) ≠ 0 ∨ V (h - 1) ≠ 0 then 1 else 0)) := by
  refine EN.link hh h64 e _ fun i a b => ?_
  rw [bitI_or a b, bitI_shl1 a b, bitI_and a b, bitI_or a b, bit_1 a b]
  refine or_congr Iff.rfl ⟨?_, ?_⟩
  · rintro ⟨h1, h3⟩
    subst h3
    rw [bitI_ushr (Or.inl rfl) a (by omega)] at h1
    have r1 := e 0 (by omega) (by omega)
    have r2 := e 1 (by omega) (by omega)
    rw [show h - 1 - 0 = h - 1 by omega] at r1
    rw [show h - 1 - 1 = h - 2 by omega] at r2
    rw [if_pos (h1.elim (fun x => Or.inr (r1.mp x)) (fun x => Or.inl (r2.mp x)))]
    exact ⟨rfl, by omega⟩
  · rintro ⟨h1, h2⟩
    subst h1
    by_cases c : V (h - 2) ≠ 0 ∨ V (h - 1) ≠ 0
    · refine ⟨?_, rfl⟩
      rw [bitI_ushr (Or.inl rfl) a (by omega)]
      rcases c with c | c
      · exact Or.inr ((e 1 (by omega) (by omega)).mpr (by rw [show h - 1 - 1 = h - 2 by omega]; exact c))
      · exact Or.inl ((e 0 (by omega) (by omega)).mpr (by rw [show h - 1 - 0 = h - 1 by omega]; exact c))
    · rw [if_neg c] at h2
      exact absurd rfl h2
theorem EN.atom {z h t : Int} {V : Int → Int} (h0 : 0 ≤ h) (h64 : h < 64) (ht : t = 0 ∨ t = 1) (e : EN z h V) : EN (gB64 (fun a b => a ||| b) (gS64 (fun a b => a <<< b) z 1) t) (h + 1) (updI V h t) := by
  intro i a b
  rw [bitI_or a (by omega), bitI_shl1 a (by omega)]
  by_cases c : i = 0
  · subst c
    rw [show h + 1 - 1 - 0 = h by omega, updI_eq]
    rcases ht with rfl | rfl
    · constructor
      · rintro (⟨h1, _⟩ | h1)
        · exact absurd rfl h1
        · exact absurd h1 (bitI_0 a (by omega))
      · intro h1; exact absurd rfl h1
    · constructor
      · intro _; omega
      · intro _; exact Or.inr ((bit_1 a (by omega)).mpr rfl)
  · rw [updI_ne (by omega), e (i - 1) (by omega) (by omega), show h + 1 - 1 - i = h - 1 - (i - 1) by omega]
    constructor
    · rintro (⟨_, h2⟩ | h1)
      · exact h2
      · exfalso
        rcases ht with rfl | rfl
        · exact bitI_0 a (by omega) h1
        · exact c ((bit_1 a (by omega)).mp h1)
    · intro h2; exact Or.inl ⟨c, h2⟩
