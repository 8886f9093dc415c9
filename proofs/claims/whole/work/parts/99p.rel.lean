/-! the reference's reading beside the class's: what both have -/
def isR (k : Nat) (i : Int) : Bool := (decide (k = 133) && ((decide (54 ≤ i) && decide (i ≤ 59)) || decide (i = 62) || decide (i = 63) || (decide (79 ≤ i) && decide (i ≤ 84)))) || decide (k = 186) || (decide (k = 175) && decide (i = 6)) || (decide (k = 176) && decide (48 ≤ i)) || (decide (k = 177) && decide (30 ≤ i)) || ((decide (k = 178) || decide (k = 179)) && decide (60 ≤ i)) || ((decide (k = 180) || decide (k = 181) || decide (k = 182)) && decide (1200 ≤ i))
def KR (σ σ' : gH) : Prop := ∀ k i, isR k i = false → σ' k i = σ k i
theorem KR.refl {σ : gH} : KR σ σ := fun _ _ _ => rfl
theorem KR.trans {σ σ1 σ2 : gH} (a : KR σ σ1) (b : KR σ1 σ2) : KR σ σ2 := fun k i h => (b k i h).trans (a k i h)
theorem KR.up {σ σ' : gH} (h : KR σ σ') {k : Nat} {i v : Int} (q : isR k i = true) : KR σ (gUp σ' k i v) := fun k' i' e => by
  by_cases c : k' = k
  · subst c
    rw [gUp_at]
    by_cases d : i' = i
    · subst d; rw [q] at e; cases e
    · rw [if_neg d]; exact h k' i' e
  · rw [gUp_ne c]; exact h k' i' e
theorem KR.ur {σ σ' : gH} (h : KR σ σ') {k : Nat} {f : Int → Int} (q : ∀ i, isR k i = false → f i = σ' k i) : KR σ (gUr σ' k f) := fun k' i' e => by
  by_cases c : k' = k
  · subst c; rw [gUr_own, q i' e]; exact h k' i' e
  · rw [gUr_ne c]; exact h k' i' e
theorem isR_hi {k : Nat} {i : Int} (hk : k = 180 ∨ k = 181 ∨ k = 182) (hi : 1200 ≤ i) : isR k i = true := by
  have d : decide (1200 ≤ i) = true := decide_eq_true hi
  rcases hk with rfl | rfl | rfl <;> simp [isR, d]
theorem isR_wi {i : Int} (hi : 48 ≤ i) : isR 176 i = true := by
  have d : decide (48 ≤ i) = true := decide_eq_true hi
  simp [isR, d]
theorem isR_nu {i : Int} (hi : 30 ≤ i) : isR 177 i = true := by
  have d : decide (30 ≤ i) = true := decide_eq_true hi
  simp [isR, d]
theorem isR_ft {k : Nat} {i : Int} (hk : k = 178 ∨ k = 179) (hi : 60 ≤ i) : isR k i = true := by
  have d : decide (60 ≤ i) = true := decide_eq_true hi
  rcases hk with rfl | rfl <;> simp [isR, d]
theorem isR_lo {i : Int} (h : isR 180 i = false) : i < 1200 := by
  by_cases c : 1200 ≤ i
  · rw [isR_hi (Or.inl rfl) c] at h; cases h
  · omega
theorem KG.kr {σ σ' : gH} (h : KG σ σ') : KR σ σ' := fun k i e => h k i (by
  unfold isG
  by_cases c : k = 133
  · subst c
    by_cases d : (decide (55 ≤ i) && decide (i ≤ 59) || decide (i = 63)) = true
    · exfalso
      have r : isR 133 i = true := by
        rcases Bool.or_eq_true_iff.mp d with d | d
        · have d2 := Bool.and_eq_true_iff.mp d
          have d3 := of_decide_eq_true d2.1
          have d4 := of_decide_eq_true d2.2
          simp [isR, show (54 : Int) ≤ i by omega, show i ≤ 59 by omega]
        · have d3 := of_decide_eq_true d
          subst d3
          rfl
      rw [r] at e; cases e
    · rw [Bool.not_eq_true] at d
      rw [d]; rfl
  · rw [decide_eq_false c]; rfl)
theorem KG.row {σ σ' : gH} (h : KG σ σ') {k : Nat} (hk : k ≠ 133) : σ' k = σ k := funext fun i => h k i (by unfold isG; rw [decide_eq_false hk]; rfl)
def rnP (x : Int) : Int := if x = 40 then 23 else rnM x
def MKR (z : Int) (mk sg nu pc ps pn : Int → Int) : Prop := ∀ k, 0 ≤ k → k < z → pc (1200 + k) = rnM (mk k) ∧ (isMeas (mk k) → ps (1200 + k) = sg k ∧ pn (1200 + k) = nu k)
def WIR (te : Int) (wi wr : Int → Int) : Prop := ∀ k, 0 ≤ k → k < te → wr (48 + k) = wi k
def NUR (n4 n5 n6 n7 n8 : Int) (nr : Int → Int) : Prop := nr 30 = n4 ∧ nr 31 = n5 ∧ nr 32 = n6 ∧ nr 33 = n7 ∧ nr 34 = n8
def TLB (w : Int) : Int := if w = 20 then 8 else if w = 21 then 9 else if w = 8 then 0 else w - 21
def TLR (a b : Int) : Prop := ∀ w, w = 8 ∨ (20 ≤ w ∧ w ≤ 25) → (bit3 a w ↔ bit3 b (TLB w))
def FTR (q : Prop) (c : Int) (B E F T : Int → Int) : Prop := ∀ r, 0 ≤ r → r < 10 → (q → r ≠ c) → (B r = E r ∧ F (60 + r) = -1) ∨ (B r < E r ∧ F (60 + r) = B r ∧ T (60 + r) = E r)
def PIR (w d br : Int) (W : Int → Int) (tp op pa : Int) (pl : Int → Int) : Prop := tp = w ∧ op = d - 1 ∧ pa = br ∧ ∀ k, 0 ≤ k → k < w → pl k = rnP (W k)
/-- between rules, and in them -/
def RLB (L : Int) (σ0 S σ : gH) (q : Prop) (c : Int) : Prop := KR σ0 σ ∧ σ 133 54 = L ∧ σ 133 82 = S 57 13 ∧ σ 133 83 = S 68 15 ∧ MKR (S 68 15) (S 72) (S 73) (S 74) (σ 180) (σ 181) (σ 182) ∧ WIR (S 68 3) (S 69) (σ 176) ∧ NUR (S 68 4) (S 68 5) (S 68 6) (S 68 7) (S 68 8) (σ 177) ∧ TLR (S 57 7) (σ 133 62) ∧ FTR q c (S 70) (S 71) (σ 178) (σ 179)
/-- in a condition -/
def RLC (L : Int) (σ0 S σ : gH) : Prop := RLB L σ0 S σ True (S 57 12) ∧ PIR (S 57 17) (S 57 14) (S 57 15) (S 67) (σ 133 79) (σ 133 80) (σ 133 81) (σ 186) ∧ σ 178 (60 + S 57 12) = S 70 (S 57 12) ∧ σ 175 6 = S 68 3
theorem RLB.kg {L : Int} {σ0 S σ σ' : gH} {q : Prop} {c : Int} (R : RLB L σ0 S σ q c) (h : KG σ σ') : RLB L σ0 S σ' q c := by
  obtain ⟨r1, r2, r3, r4, r5, r6, r7, r8, r9⟩ := R
  unfold RLB
  rw [h.rd (k := 133) (i := 54) rfl, h.rd (k := 133) (i := 82) rfl, h.rd (k := 133) (i := 83) rfl, h.rd (k := 133) (i := 62) rfl, h.row (k := 180) (by decide), h.row (k := 181) (by decide), h.row (k := 182) (by decide), h.row (k := 176) (by decide), h.row (k := 177) (by decide), h.row (k := 178) (by decide), h.row (k := 179) (by decide)]
  exact ⟨r1.trans h.kr, r2, r3, r4, r5, r6, r7, r8, r9⟩
theorem RLC.kg {L : Int} {σ0 S σ σ' : gH} (R : RLC L σ0 S σ) (h : KG σ σ') : RLC L σ0 S σ' := by
  obtain ⟨r1, r2, r3, r4⟩ := R
  refine ⟨r1.kg h, ?_, ?_, ?_⟩
  · rw [h.rd (k := 133) (i := 79) rfl, h.rd (k := 133) (i := 80) rfl, h.rd (k := 133) (i := 81) rfl, h.row (k := 186) (by decide)]
    exact r2
  · rw [h.row (k := 178) (by decide)]; exact r3
  · rw [h.row (k := 175) (by decide)]; exact r4
theorem MKR.cg {z : Int} {mk sg nu pc ps pn pc' ps' pn' : Int → Int} (h : MKR z mk sg nu pc ps pn) (e1 : ∀ k, k < 1200 + z → pc' k = pc k) (e2 : ∀ k, k < 1200 + z → ps' k = ps k) (e3 : ∀ k, k < 1200 + z → pn' k = pn k) : MKR z mk sg nu pc' ps' pn' := fun k a b => by
  rw [e1 _ (by omega), e2 _ (by omega), e3 _ (by omega)]
  exact h k a b
theorem RLC.sg {L v : Int} {σ0 S σ : gH} (R : RLC L σ0 S σ) (hz : 0 ≤ S 68 15) : RLC L σ0 S (gUp σ 181 (1200 + S 68 15) v) := by
  obtain ⟨⟨r1, r2, r3, r4, r5, r6, r7, r8, r9⟩, s2, s3, s4⟩ := R
  exact ⟨⟨r1.up (isR_hi (Or.inr (Or.inl rfl)) (by omega)), r2, r3, r4, r5.cg (fun _ _ => rfl) (fun k h => if_neg (by omega)) (fun _ _ => rfl), r6, r7, r8, r9⟩, s2, s3, s4⟩
theorem RLC.nu {L v : Int} {σ0 S σ : gH} (R : RLC L σ0 S σ) (hz : 0 ≤ S 68 15) : RLC L σ0 S (gUp σ 182 (1200 + S 68 15) v) := by
  obtain ⟨⟨r1, r2, r3, r4, r5, r6, r7, r8, r9⟩, s2, s3, s4⟩ := R
  exact ⟨⟨r1.up (isR_hi (Or.inr (Or.inr rfl)) (by omega)), r2, r3, r4, r5.cg (fun _ _ => rfl) (fun _ _ => rfl) (fun k h => if_neg (by omega)), r6, r7, r8, r9⟩, s2, s3, s4⟩
/-- one more ONE -/
theorem RLC.one {L a q k v : Int} {σ0 S σ : gH} (R : RLC L σ0 S σ) {n : Int} (hn : n = S 57 13 + 1) : RLC L σ0 (ONE (ADV S a q k v)) (gUp σ 133 82 n) := by
  subst hn
  obtain ⟨⟨r1, r2, r3, r4, r5, r6, r7, r8, r9⟩, s2, s3, s4⟩ := R
  exact ⟨⟨r1.up rfl, r2, rfl, r4, r5, r6, r7, r8, r9⟩, s2, s3, s4⟩
theorem RLC.adv {L a q k v : Int} {σ0 S σ : gH} (R : RLC L σ0 S σ) : RLC L σ0 (ADV S a q k v) σ := R
/-- what waits, laid on the pile -/
theorem RLC.psh {L x y : Int} {σ0 X σ : gH} (R : RLC L σ0 X σ) (h0 : 0 ≤ X 57 17) (hx : x = 14 ∨ x = 15 ∨ x = 16 ∨ x = 40) (hy : y = rnP x) {D B : Int} (hD : D = X 57 14 + (if x = 14 ∨ x = 40 then 1 else 0)) (hB : B = X 57 15 + (if x = 40 then 1 else 0)) {S' : gH} (hS : S' = gUp (gUp (AWT X x) 57 15 B) 57 14 D) : RLC L σ0 S' (PSH σ y) := by
  obtain ⟨⟨r1, r2, r3, r4, r5, r6, r7, r8, r9⟩, ⟨p1, p2, p3, p4⟩, s3, s4⟩ := R
  have y40 : (y = 23 ↔ x = 40) ∧ (y = 20 ↔ x = 14) := by
    rw [hy]
    rcases hx with rfl | rfl | rfl | rfl <;> decide
  have K : KR σ0 (PSH σ y) := (((r1.up (k := 186) (by simp [isR])).up rfl).up rfl).up rfl
  rw [hS]
  refine ⟨⟨K, r2, r3, r4, r5, r6, r7, r8, r9⟩, ⟨?_, ?_, ?_, ?_⟩, s3, s4⟩
  · show σ 133 79 + 1 = X 57 17 + 1
    rw [p1]
  · show (if y = 20 ∨ y = 23 then σ 133 80 + 1 else σ 133 80) = D - 1
    rw [hD, p2]
    by_cases c : x = 14 ∨ x = 40
    · rw [if_pos (by omega), if_pos c]; omega
    · rw [if_neg (by omega), if_neg c]; omega
  · show (if y = 23 then σ 133 81 + 1 else σ 133 81) = B
    rw [hB, p3]
    by_cases c : x = 40
    · rw [if_pos (by omega), if_pos c]
    · rw [if_neg (by omega), if_neg c]; omega
  · intro k a b
    have b2 : k < X 57 17 + 1 := b
    show (if k = σ 133 79 then y else σ 186 k) = rnP (if k = X 57 17 then x else X 67 k)
    rw [p1]
    by_cases c : k = X 57 17
    · rw [if_pos c, if_pos c, hy]
    · rw [if_neg c, if_neg c]; exact p4 k a (by omega)
/-- the nots of both, told alike -/
theorem rnP_of {x : Int} (h : x = 14 ∨ x = 15 ∨ x = 16 ∨ x = 40) : (rnP x = 20 ↔ x = 14) ∧ (rnP x = 21 ↔ x = 15) ∧ (rnP x = 22 ↔ x = 16) ∧ (rnP x = 23 ↔ x = 40) ∧ (x ≠ 40 → rnP x = rnM x) := by
  rcases h with rfl | rfl | rfl | rfl <;> decide
theorem NTS_pile {W P : Int → Int} {w m : Int} (S : STK W w) (h : ∀ k, 0 ≤ k → k < w → P k = rnP (W k)) (N : NTS P 20 w m) : NTS W 14 w m := by
  obtain ⟨n1, n2, n3⟩ := N
  refine ⟨n1, fun i a b => ?_, fun q e => ?_⟩
  · have e := n2 i a b
    rw [h i (by omega) b] at e
    exact (rnP_of (S i (by omega) b).1).1.mp e
  · have e2 := n3 q
    rw [h (m - 1) (by omega) (by omega)] at e2
    exact e2 ((rnP_of (S (m - 1) (by omega) (by omega)).1).1.mpr e)
/-- the nots laid on both sides -/
theorem RLC.nots {L m : Int} {σ0 X σ : gH} (R : RLC L σ0 X σ) (S : STK (X 67) (X 57 17)) (h0 : 0 ≤ X 57 17) (hz : 0 ≤ X 68 15) (N : NTS (σ 186) 20 (σ 133 79) m) {S' : gH} (hS : S' = gUp (CNS X) 57 3 0) :
    RLC L σ0 S' (gUp (gUp (gUr (gUp σ 133 79 m) 180 (pfl (σ 180) (1200 + σ 133 83) (σ 133 79 - m) 20)) 133 83 (σ 133 83 + (σ 133 79 - m))) 133 80 (σ 133 80 - (σ 133 79 - m))) := by
  obtain ⟨⟨r1, r2, r3, r4, r5, r6, r7, r8, r9⟩, ⟨p1, p2, p3, p4⟩, s3, s4⟩ := R
  have em : m = ntF (X 67) 14 (X 57 17).toNat := by
    rw [p1] at N
    exact (NTS_pile S p4 N).one (ntF_at h0)
  have N1 := N.1
  have K : KR σ0 (gUp (gUp (gUr (gUp σ 133 79 m) 180 (pfl (σ 180) (1200 + σ 133 83) (σ 133 79 - m) 20)) 133 83 (σ 133 83 + (σ 133 79 - m))) 133 80 (σ 133 80 - (σ 133 79 - m))) :=
    (((r1.up (k := 133) (i := 79) rfl).ur (k := 180) (fun i hi => pfl_lo (by have := isR_lo hi; omega))).up rfl).up rfl
  rw [hS]
  refine ⟨⟨K, r2, r3, ?_, ?_, r6, r7, r8, r9⟩, ⟨?_, ?_, p3, ?_⟩, s3, s4⟩
  · show σ 133 83 + (σ 133 79 - m) = X 68 15 + (X 57 17 - ntF (X 67) 14 (X 57 17).toNat)
    rw [r4, p1, em]
  · show MKR (X 68 15 + (X 57 17 - ntF (X 67) 14 (X 57 17).toNat)) (pfl (X 72) (X 68 15) (X 57 17 - ntF (X 67) 14 (X 57 17).toNat) 14) (pfl (X 73) (X 68 15) (X 57 17 - ntF (X 67) 14 (X 57 17).toNat) 0) (pfl (X 74) (X 68 15) (X 57 17 - ntF (X 67) 14 (X 57 17).toNat) 0) (pfl (σ 180) (1200 + σ 133 83) (σ 133 79 - m) 20) (σ 181) (σ 182)
    rw [← em, p1, r4]
    intro k a b
    by_cases c : k < X 68 15
    · rw [pfl_lo (by omega), pfl_lo c, pfl_lo c, pfl_lo c]
      exact r5 k a c
    · have e1 : pfl (σ 180) (1200 + X 68 15) (X 57 17 - m) 20 (1200 + k) = 20 := if_pos (by omega)
      have e2 : pfl (X 72) (X 68 15) (X 57 17 - m) 14 k = 14 := if_pos (by omega)
      rw [e1, e2]
      exact ⟨rfl, fun q => by omega⟩
  · show m = ntF (X 67) 14 (X 57 17).toNat
    exact em
  · show σ 133 80 - (σ 133 79 - m) = X 57 14 - (X 57 17 - ntF (X 67) 14 (X 57 17).toNat) - 1
    rw [p2, p1, em]; omega
  · intro k a b
    have b2 : k < ntF (X 67) 14 (X 57 17).toNat := b
    exact p4 k a (by rw [p1] at N1; omega)
/-- an atom laid on both sides -/
theorem RLC.put {L x y s n : Int} {σ0 X σ : gH} (R : RLC L σ0 X σ) (hz : 0 ≤ X 68 15) (hy : y = rnM x) (hm : isMeas x → σ 181 (1200 + X 68 15) = s ∧ σ 182 (1200 + X 68 15) = n) : RLC L σ0 (PTS X x s n) (gUp (gUp σ 180 (1200 + σ 133 83) y) 133 83 (σ 133 83 + 1)) := by
  obtain ⟨⟨r1, r2, r3, r4, r5, r6, r7, r8, r9⟩, ⟨p1, p2, p3, p4⟩, s3, s4⟩ := R
  have K : KR σ0 (gUp (gUp σ 180 (1200 + σ 133 83) y) 133 83 (σ 133 83 + 1)) := (r1.up (isR_hi (Or.inl rfl) (by omega))).up rfl
  refine ⟨⟨K, r2, r3, ?_, ?_, r6, r7, r8, r9⟩, ⟨p1, p2, p3, p4⟩, s3, s4⟩
  · show σ 133 83 + 1 = X 68 15 + 1
    rw [r4]
  · intro k a b
    have b2 : k < X 68 15 + 1 := b
    show (if 1200 + k = 1200 + σ 133 83 then y else σ 180 (1200 + k)) = rnM (if k = X 68 15 then x else X 72 k) ∧ (isMeas (if k = X 68 15 then x else X 72 k) → σ 181 (1200 + k) = (if k = X 68 15 then s else X 73 k) ∧ σ 182 (1200 + k) = (if k = X 68 15 then n else X 74 k))
    rw [r4]
    by_cases c : k = X 68 15
    · rw [if_pos (by omega), if_pos c, if_pos c, if_pos c, c]
      exact ⟨hy, hm⟩
    · rw [if_neg (by omega), if_neg c, if_neg c, if_neg c]
      exact r5 k a (by omega)
