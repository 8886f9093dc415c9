/-! law: class and reference agree -/
theorem lw58 {σ : gH} (hg : gGr σ) : ∀ i : Int, 0 ≤ i → i < 6 → σ 58 i = ((clw i : Nat) : Int) := fun i a b => by
  rcases (show i = 0 ∨ i = 1 ∨ i = 2 ∨ i = 3 ∨ i = 4 ∨ i = 5 by omega) with rfl | rfl | rfl | rfl | rfl | rfl
  · exact hg.at (j := 0) kd_58 (by decide) rfl rfl
  · exact hg.at (j := 1) kd_58 (by decide) rfl rfl
  · exact hg.at (j := 2) kd_58 (by decide) rfl rfl
  · exact hg.at (j := 3) kd_58 (by decide) rfl rfl
  · exact hg.at (j := 4) kd_58 (by decide) rfl rfl
  · exact hg.at (j := 5) kd_58 (by decide) rfl rfl
theorem clw_D {i : Int} (h0 : 0 ≤ i) (h1 : i < 6) : isD (clw i) := by
  rcases (show i = 0 ∨ i = 1 ∨ i = 2 ∨ i = 3 ∨ i = 4 ∨ i = 5 by omega) with rfl | rfl | rfl | rfl | rfl | rfl <;> decide
theorem BG0_beg {S : gH} {f k n : Int} : BG0 (BEG S f k n) := by
  refine ⟨rfl, rfl, rfl, rfl, rfl, rfl, rfl, ⟨rfl, rfl, rfl, rfl, rfl⟩, rfl, fun r a b => ?_⟩
  show fillF (S 70) 10 0 r = fillF (S 71) 10 0 r
  rw [fillF_in a b, fillF_in a b]
/-- the facts behind a law that was refused for its day, or for its number -/
theorem Inv_refuse {σ : gH} (hI : Inv σ) : Inv (gUp (gUp (gUp (gUp σ 0 1 0) 133 0 0) 133 54 ((gUp σ 0 1 0) 133 2)) 133 2 0) := by
  refine Inv_frame hI (fun k i h => ?_) rfl rfl ?_
  · by_cases e0 : k = 0
    · subst e0
      show (if i = 1 then (0 : Int) else σ 0 i) = σ 0 i
      by_cases e1 : i = 1
      · subst e1; exact absurd h (by decide)
      · rw [if_neg e1]
    · by_cases e1 : k = 133
      · subst e1
        show (if i = 2 then (0 : Int) else if i = 54 then _ else if i = 0 then 0 else σ 133 i) = σ 133 i
        by_cases x1 : i = 2
        · subst x1; exact absurd h (by decide)
        · by_cases x2 : i = 54
          · subst x2; exact absurd h (by decide)
          · by_cases x3 : i = 0
            · subst x3; exact absurd h (by decide)
            · rw [if_neg x1, if_neg x2, if_neg x3]
      · rw [gUp_ne e1, gUp_ne e1, gUp_ne e1, gUp_ne e0]
  · exact hI.law
theorem lwt_R {k : Nat} {i : Int} (h : lwt k i = false) : isR k i = false ∧ ¬ (k = 0 ∧ i = 1) ∧ k ≠ 57 ∧ ¬ (66 ≤ k ∧ k < 110) ∧ ¬ (173 ≤ k ∧ k < 183) ∧ k ≠ 186 ∧ (k = 133 → i ≠ 0 ∧ i ≠ 2 ∧ i ≠ 54 ∧ i ≠ 55 ∧ i ≠ 60 ∧ i ≠ 61 ∧ i ≠ 62 ∧ i ≠ 77 ∧ i ≠ 82 ∧ i ≠ 83) := by
  unfold lwt at h
  simp only [Bool.or_eq_false_iff, Bool.and_eq_false_iff, beq_eq_false_iff_ne, decide_eq_false_iff_not] at h
  obtain ⟨⟨⟨⟨⟨h1, h2⟩, h3⟩, h4⟩, h5⟩, h6⟩ := h
  have hc : k = 133 → i ≠ 0 ∧ i ≠ 2 ∧ i ≠ 54 ∧ i ≠ 55 ∧ i ≠ 56 ∧ i ≠ 57 ∧ i ≠ 58 ∧ i ≠ 59 ∧ i ≠ 60 ∧ i ≠ 61 ∧ i ≠ 62 ∧ i ≠ 63 ∧ i ≠ 77 ∧ i ≠ 79 ∧ i ≠ 80 ∧ i ≠ 81 ∧ i ≠ 82 ∧ i ≠ 83 ∧ i ≠ 84 := fun e => by
    rcases h4 with h4 | h4
    · exact absurd e h4
    · simp at h4
      exact h4
  refine ⟨?_, by omega, h2, by omega, by omega, h6, fun e => by have := hc e; omega⟩
  unfold isR
  simp only [Bool.or_eq_false_iff, Bool.and_eq_false_iff, decide_eq_false_iff_not]
  by_cases e : k = 133
  · have := hc e
    refine ⟨⟨⟨⟨⟨⟨?_, by omega⟩, by omega⟩, by omega⟩, by omega⟩, by omega⟩, by omega⟩
    right
    omega
  · refine ⟨⟨⟨⟨⟨⟨Or.inl e, by omega⟩, by omega⟩, by omega⟩, by omega⟩, by omega⟩, by omega⟩
/-- what stands behind the class's reading, outside of it -/
theorem kc_fr {c : Nat} {σ σl A : gH} (hc : isD c) (h : AG c (gUp (gUp σ 0 1 0) 57 5 (c : Int)) σl A) {k : Nat} (h1 : k ≠ 0) (h2 : k ≠ 57) (h3 : k ≠ 66) (h4 : k ≠ 67) (h5 : k < c ∨ c + 7 ≤ k) : σl k = σ k := funext fun i => by
  rw [h.fr (k := k) (i := i) ⟨h3, h4, h5, fun e => absurd e h2⟩, gUp_ne h2, gUp_ne h1]
theorem MLB_fr {σ : gH} {k : Nat} (h1 : k ≠ 133) (h2 : k ≠ 175) (h3 : k ≠ 177) (h4 : k ≠ 178) : MLB σ k = σ k := by
  unfold MLB
  rw [gUp_ne h1, gUr_ne h3, gUr_ne h4, gUp_ne h2, gUp_ne h1, gUp_ne h1, gUp_ne h1, gUp_ne h1, gUp_ne h1, gUp_ne h1, gUp_ne h1]
theorem MLB_133 {σ : gH} {i : Int} (h : i ≠ 0 ∧ i ≠ 2 ∧ i ≠ 54 ∧ i ≠ 55 ∧ i ≠ 60 ∧ i ≠ 61 ∧ i ≠ 62 ∧ i ≠ 77 ∧ i ≠ 82 ∧ i ≠ 83) : MLB σ 133 i = σ 133 i := by
  show (if i = 55 then _ else if i = 83 then _ else if i = 82 then _ else if i = 62 then _ else if i = 60 then _ else if i = 2 then _ else if i = 54 then _ else if i = 0 then _ else σ 133 i) = σ 133 i
  rw [if_neg (by omega), if_neg (by omega), if_neg (by omega), if_neg (by omega), if_neg (by omega), if_neg (by omega), if_neg (by omega), if_neg (by omega)]
/-- old laws of the reference are left -/
theorem KR_mlw {σ τ : gH} (K : KR (MLB σ) τ) {l : Nat} (hl : l < 6) {k : Nat} {i : Int} (h : mlw l k i) : τ k i = σ k i := by
  have r : isR k i = false := by
    unfold isR
    simp only [Bool.or_eq_false_iff, Bool.and_eq_false_iff, decide_eq_false_iff_not]
    unfold mlw at h
    refine ⟨⟨⟨⟨⟨⟨by omega, by omega⟩, by omega⟩, by omega⟩, by omega⟩, by omega⟩, by omega⟩
  rw [K k i r]
  unfold mlw at h
  by_cases e1 : k = 175
  · subst e1
    unfold MLB
    rw [gUp_ne (by decide), gUr_ne (by decide), gUr_ne (by decide), gUp_at, if_neg (by omega), gUp_ne (by decide), gUp_ne (by decide), gUp_ne (by decide), gUp_ne (by decide), gUp_ne (by decide), gUp_ne (by decide), gUp_ne (by decide)]
  · by_cases e2 : k = 177
    · subst e2
      show cpy (σ 177) 30 5 (σ 183) 0 i = σ 177 i
      exact cpy_lo (by omega)
    · by_cases e3 : k = 178
      · subst e3
        show pfl (σ 178) 60 10 (-1) i = σ 178 i
        exact pfl_lo (by omega)
      · exact congrFun (MLB_fr (by omega) e1 e2 e3) i
theorem S_emp_row {σ σ' : gH} (h : S_emp σ) (e59 : σ' 59 = σ 59) (e61 : σ' 61 = σ 61) (e62 : σ' 62 = σ 62) (e183 : σ' 183 = σ 183) (e184 : σ' 184 = σ 184) (e185 : σ' 185 = σ 185) : S_emp σ' := by
  unfold S_emp at *
  rw [e59, e61, e62, e183, e184, e185]
  exact h
/-- a law with a fault -/
theorem Inv_bad {c : Nat} {σ σl A τ : gH} {y z : Int} (hI : Inv σ) (hc : isD c) (hcn : c = 68 + 7 * (σ 57 2).toNat) (hG : AG c (gUp (gUp σ 0 1 0) 57 5 (c : Int)) σl A) (K : KR (MLB σl) τ) (h60 : (gUp (gUp τ 133 60 y) 133 61 z) 133 60 = A 57 3) : Inv (gUp (gUp τ 133 60 y) 133 61 z) := by
  have hl := hI.law
  have hc2 : 68 ≤ c ∧ c < 110 := by rcases hc with h | h | h | h | h | h <;> omega
  have e : ∀ k, k ≠ 0 → k ≠ 57 → k ≠ 66 → k ≠ 67 → (k < c ∨ c + 7 ≤ k) → k ≠ 133 → ¬ (173 ≤ k ∧ k < 183) → k ≠ 186 → (gUp (gUp τ 133 60 y) 133 61 z) k = σ k := fun k a1 a2 a3 a4 a5 a6 a7 a8 => by
    rw [gUp_ne a6, gUp_ne a6, ← kc_fr hc hG a1 a2 a3 a4 a5, ← MLB_fr (σ := σl) a6 (by omega) (by omega) (by omega)]
    funext i
    refine K k i ?_
    unfold isR
    simp only [Bool.or_eq_false_iff, Bool.and_eq_false_iff, decide_eq_false_iff_not]
    refine ⟨⟨⟨⟨⟨⟨by omega, by omega⟩, by omega⟩, by omega⟩, by omega⟩, by omega⟩, by omega⟩
  have e133 : ∀ i, lwt 133 i = false → (gUp (gUp τ 133 60 y) 133 61 z) 133 i = σ 133 i := fun i h => by
    have r := lwt_R h
    have m := r.2.2.2.2.2.2 rfl
    show (if i = 61 then z else if i = 60 then y else τ 133 i) = σ 133 i
    rw [if_neg m.2.2.2.2.2.1, if_neg m.2.2.2.2.1, K 133 i r.1, MLB_133 m]
    exact congrFun (kc_fr hc hG (by decide) (by decide) (by decide) (by decide) (by omega)) i
  have e0 : ∀ i, i ≠ 1 → (gUp (gUp τ 133 60 y) 133 61 z) 0 i = σ 0 i := fun i hi => by
    rw [gUp_ne (by decide), gUp_ne (by decide), K 0 i (by rfl), MLB_fr (by decide) (by decide) (by decide) (by decide), hG.fr (k := 0) (i := i) ⟨by decide, by decide, by omega, fun q => absurd q (by decide)⟩]
    exact if_neg hi
  have e01 : (gUp (gUp τ 133 60 y) 133 61 z) 0 1 = 0 := by
    rw [gUp_ne (by decide), gUp_ne (by decide), K 0 1 (by rfl), MLB_fr (by decide) (by decide) (by decide) (by decide), hG.fr (k := 0) (i := 1) ⟨by decide, by decide, by omega, fun q => absurd q (by decide)⟩]
    rfl
  have e57 : ∀ i, (gUp (gUp τ 133 60 y) 133 61 z) 57 i = σl 57 i := fun i => by
    rw [gUp_ne (by decide), gUp_ne (by decide), K 57 i (by rfl), MLB_fr (by decide) (by decide) (by decide) (by decide)]
  have e572 : (gUp (gUp τ 133 60 y) 133 61 z) 57 2 = σ 57 2 := by
    rw [e57, hG.fr (k := 57) (i := 2) ⟨by decide, by decide, by omega, fun q => by decide⟩]
    rfl
  have e77 : (gUp (gUp τ 133 60 y) 133 61 z) 133 77 = σ 133 77 := by
    show τ 133 77 = _
    rw [K 133 77 (by rfl)]
    show σl 133 77 = _
    exact congrFun (kc_fr hc hG (by decide) (by decide) (by decide) (by decide) (by omega)) 77
  have e2 : (gUp (gUp τ 133 60 y) 133 61 z) 133 2 = 0 := by
    show τ 133 2 = _
    rw [K 133 2 (by rfl)]
    rfl
  refine Inv_frame hI (fun k i h => ?_) e2 e01 ?_
  · have r := lwt_R h
    by_cases k0 : k = 0
    · subst k0; exact e0 i (fun q => r.2.1 ⟨rfl, q⟩)
    · by_cases k1 : k = 133
      · subst k1; exact e133 i h
      · rw [e k k0 r.2.2.1 (by omega) (by omega) (by omega) k1 r.2.2.2.2.1 r.2.2.2.2.2.1]
  · refine S_law_of (by rw [e77, e572]; exact hl.1) (by rw [e572]; exact ⟨hl.2.1, hl.2.2.1⟩) (by rw [h60, e57]; exact (hG.1 3 (by decide)).symm) (fun l hlt => ?_) ?_
    · rw [e572] at hlt
      have h6 := hl.2.2.1
      refine lawR_cg (law_atN hl hlt) (fun k a b => e k (by omega) (by omega) (by omega) (by omega) (by omega) (by omega) (by omega) (by omega)) (fun k i hm => ?_)
      have km : 173 ≤ k ∧ k < 183 := by unfold mlw at hm; omega
      rw [gUp_ne (by omega), gUp_ne (by omega), KR_mlw K (l := l) (by omega) hm]
      exact congrFun (kc_fr hc hG (by omega) (by omega) (by omega) (by omega) (by omega)) i
    · exact S_emp_row hl.2.2.2.2.2 (e _ (by decide) (by decide) (by decide) (by decide) (by omega) (by decide) (by decide) (by decide)) (e _ (by decide) (by decide) (by decide) (by decide) (by omega) (by decide) (by decide) (by decide)) (e _ (by decide) (by decide) (by decide) (by decide) (by omega) (by decide) (by decide) (by decide)) (e _ (by decide) (by decide) (by decide) (by decide) (by omega) (by decide) (by decide) (by decide)) (e _ (by decide) (by decide) (by decide) (by decide) (by omega) (by decide) (by decide) (by decide)) (e _ (by decide) (by decide) (by decide) (by decide) (by omega) (by decide) (by decide) (by decide))
