/-! law: what is left of the stores: the facts, the laws -/
def lwt (k : Nat) (i : Int) : Bool := (k == 0 && decide (i = 1)) || k == 57 || (decide (66 ≤ k) && decide (k < 110)) || (k == 133 && ([0, 2, 54, 55, 56, 57, 58, 59, 60, 61, 62, 63, 77, 79, 80, 81, 82, 83, 84] : List Int).contains i) || (decide (173 ≤ k) && decide (k < 183)) || k == 186
def mixS (τ σ : gH) : gH := fun k i => if lwt k i = true then τ k i else σ k i
theorem mixS_eq {σ τ : gH} (h : ∀ k i, lwt k i = false → τ k i = σ k i) : τ = mixS τ σ := by
  funext k i
  unfold mixS
  by_cases c : lwt k i = true
  · rw [if_pos c]
  · rw [if_neg c]
    exact h k i (by rw [Bool.not_eq_true] at c; exact c)
theorem Inv_mix {σ τ : gH} (hI : Inv σ) (h2 : τ 133 2 = 0) (h1 : τ 0 1 = 0) (hl : S_law (mixS τ σ)) : Inv (mixS τ σ) := by
  have ht : S_tape (mixS τ σ) := ⟨(show τ 133 2 = τ 0 1 by rw [h1, h2]), (show 0 ≤ τ 0 1 by omega), (show τ 0 1 ≤ 540 by omega), fun i a b => absurd (show i < τ 0 1 from b) (by omega)⟩
  obtain ⟨⟨F, _, O⟩, ⟨D, A⟩, M⟩ := hI
  exact ⟨⟨⟨F.day, ht, F.outs, F.party, F.own, F.kin, F.post, F.gift, F.worth, F.mem, F.mat, F.vote, F.ent⟩, hl, O⟩, ⟨D, A⟩, M⟩
theorem Inv_frame {σ τ : gH} (hI : Inv σ) (h : ∀ k i, lwt k i = false → τ k i = σ k i) (h2 : τ 133 2 = 0) (h1 : τ 0 1 = 0) (hl : S_law τ) : Inv τ := by
  have e := mixS_eq h
  have k := Inv_mix hI h2 h1 (e ▸ hl)
  rw [e]
  exact k
/-- a law told before, untouched -/
def mlw (l : Nat) (k : Nat) (i : Int) : Prop := ((k = 173 ∨ k = 174 ∨ k = 175) ∧ i = l) ∨ (k = 176 ∧ 8 * (l : Int) ≤ i ∧ i < 8 * (l : Int) + 8) ∨ (k = 177 ∧ 5 * (l : Int) ≤ i ∧ i < 5 * (l : Int) + 5) ∨ ((k = 178 ∨ k = 179) ∧ 10 * (l : Int) ≤ i ∧ i < 10 * (l : Int) + 10) ∨ ((k = 180 ∨ k = 181 ∨ k = 182) ∧ 200 * (l : Int) ≤ i ∧ i < 200 * (l : Int) + 200)
theorem rulR_cg {b e sz F T r : Int} {mk sg nu pc ps pn pc' ps' pn' : Int → Int} (h : rulR b e sz mk sg nu F T pc ps pn r) (e1 : ∀ i, 0 ≤ i → i < 200 → pc' i = pc i) (e2 : ∀ i, 0 ≤ i → i < 200 → ps' i = ps i) (e3 : ∀ i, 0 ≤ i → i < 200 → pn' i = pn i) : rulR b e sz mk sg nu F T pc' ps' pn' r := by
  rcases h with h | ⟨a1, a2, a3, a4, a5, a6, a7, a8, a9⟩
  · exact Or.inl h
  · refine Or.inr ⟨a1, a2, a3, a4, a5, a6, a7, a8, fun k x y => ?_⟩
    rw [e1 (F + k) (by omega) (by omega), e2 (F + k) (by omega) (by omega), e3 (F + k) (by omega) (by omega)]
    exact a9 k x y
theorem lawR_cg {σ σ' : gH} {c l : Nat} (h : lawR σ c l) (hk : ∀ k, c ≤ k → k < c + 7 → σ' k = σ k) (hm : ∀ k i, mlw l k i → σ' k i = σ k i) : lawR σ' c l := by
  obtain ⟨a1, a2, a3, a4, a5, a6, a7, a8, n4, n5, n6, n7, n8, z0, z1, rr⟩ := h
  have c0 : σ' c = σ c := hk c (by omega) (by omega)
  have c1 : σ' (c + 1) = σ (c + 1) := hk _ (by omega) (by omega)
  have c2 : σ' (c + 2) = σ (c + 2) := hk _ (by omega) (by omega)
  have c3 : σ' (c + 3) = σ (c + 3) := hk _ (by omega) (by omega)
  have c4 : σ' (c + 4) = σ (c + 4) := hk _ (by omega) (by omega)
  have c5 : σ' (c + 5) = σ (c + 5) := hk _ (by omega) (by omega)
  have c6 : σ' (c + 6) = σ (c + 6) := hk _ (by omega) (by omega)
  have m173 : σ' 173 l = σ 173 l := hm 173 l (Or.inl ⟨Or.inl rfl, rfl⟩)
  have m174 : σ' 174 l = σ 174 l := hm 174 l (Or.inl ⟨Or.inr (Or.inl rfl), rfl⟩)
  have m175 : σ' 175 l = σ 175 l := hm 175 l (Or.inl ⟨Or.inr (Or.inr rfl), rfl⟩)
  have m177 : ∀ j : Int, 0 ≤ j → j < 5 → σ' 177 (5 * l + j) = σ 177 (5 * l + j) := fun j x y => hm 177 _ (Or.inr (Or.inr (Or.inl ⟨rfl, by omega, by omega⟩)))
  have m177z : σ' 177 (5 * l) = σ 177 (5 * l) := hm 177 _ (Or.inr (Or.inr (Or.inl ⟨rfl, by omega, by omega⟩)))
  unfold lawR
  rw [c0, c1, c2, c3, c4, c5, c6, m173, m174, m175, m177z, m177 1 (by decide) (by decide), m177 2 (by decide) (by decide), m177 3 (by decide) (by decide), m177 4 (by decide) (by decide)]
  refine ⟨a1, a2, a3, a4, a5, a6, a7, fun k x y => ?_, n4, n5, n6, n7, n8, z0, z1, fun r x y => ?_⟩
  · rw [hm 176 (8 * l + k) (Or.inr (Or.inl ⟨rfl, by omega, by omega⟩))]
    exact a8 k x y
  · rw [hm 178 (10 * l + r) (Or.inr (Or.inr (Or.inr (Or.inl ⟨Or.inl rfl, by omega, by omega⟩)))), hm 179 (10 * l + r) (Or.inr (Or.inr (Or.inr (Or.inl ⟨Or.inr rfl, by omega, by omega⟩))))]
    exact rulR_cg (rr r x y) (fun i u w => hm 180 (200 * l + i) (Or.inr (Or.inr (Or.inr (Or.inr ⟨Or.inl rfl, by omega, by omega⟩))))) (fun i u w => hm 181 (200 * l + i) (Or.inr (Or.inr (Or.inr (Or.inr ⟨Or.inr (Or.inl rfl), by omega, by omega⟩))))) (fun i u w => hm 182 (200 * l + i) (Or.inr (Or.inr (Or.inr (Or.inr ⟨Or.inr (Or.inr rfl), by omega, by omega⟩)))))
theorem S_law_of {σ : gH} (h77 : σ 133 77 = σ 57 2) (h2 : 0 ≤ σ 57 2 ∧ σ 57 2 ≤ 6) (h60 : σ 133 60 = σ 57 3) (hl : ∀ l : Nat, (l : Int) < σ 57 2 → lawR σ (68 + 7 * l) l) (he : S_emp σ) : S_law σ :=
  ⟨h77, h2.1, h2.2, h60, ⟨fun h => hl 0 h, fun h => hl 1 h, fun h => hl 2 h, fun h => hl 3 h, fun h => hl 4 h, fun h => hl 5 h⟩, he⟩
theorem law_atN {σ : gH} (h : S_law σ) {l : Nat} (h1 : (l : Int) < σ 57 2) : lawR σ (68 + 7 * l) l := by
  have k := law_at h (i := (l : Int)) (by omega) h1
  unfold clw at k
  rw [Int.toNat_natCast] at k
  exact k
/-- the new law of both -/
theorem rulR_new {b e z F T r : Int} {mk sg nu pc0 ps0 pn0 pc ps pn : Int → Int} (R : RUL b e z mk sg r) (hF : (b = e ∧ F = -1) ∨ (b < e ∧ F = b ∧ T = e)) (M : MKR z mk sg nu pc0 ps0 pn0) (hz : z ≤ 120) (e1 : ∀ k, 0 ≤ k → k < z → pc k = pc0 (1200 + k)) (e2 : ∀ k, 0 ≤ k → k < z → ps k = ps0 (1200 + k)) (e3 : ∀ k, 0 ≤ k → k < z → pn k = pn0 (1200 + k)) : rulR b e z mk sg nu F T pc ps pn r := by
  rcases hF with hF | ⟨f1, f2, f3⟩
  · exact Or.inl hF
  · rcases R with R | ⟨r1, r2, r3, r4, r5⟩
    · omega
    · refine Or.inr ⟨r1, r2, r3, by omega, by omega, by omega, r4.2.2, fun k hk => (r4.2.1 k hk).2, fun k a c => ?_⟩
      have m := M (b + k) (by omega) (by omega)
      have o := r5 (b + k) (by omega) (by omega)
      have p1 := e1 (b + k) (by omega) (by omega)
      have p2 := e2 (b + k) (by omega) (by omega)
      have p3 := e3 (b + k) (by omega) (by omega)
      rw [f2, p1, p2, p3]
      exact ⟨o.1, m.1, fun q => ⟨o.2.1 q, (m.2 q).1, (m.2 q).2⟩, o.2.2⟩
theorem lawR_new {L f d : Int} {c l : Nat} {σb τ A σ2 : gH} (IB : INVb L A) (h10 : A 57 6 = 10) (R : RLB L σb A τ False 0) (h175 : τ 175 6 = A 68 3) (hl : l < 6) (hf : isDy f) (hd : isDy d) (e2 : σ2 = CPS τ l f d (A 68 15)) (hc : c < 110) (hrow : ∀ n, n < 7 → τ (c + n) = A (68 + n)) (h0 : A 68 0 = d) (h1 : A 68 1 = f) : lawR σ2 c l := by
  have hzA : 0 ≤ A 68 15 ∧ A 68 15 ≤ 120 := by
    have x1 := IB.2.2.2.2.1
    have x2 := IB.2.2.2.1
    have x3 := IB.2.2.2.2.2.2.1 (by rw [h10]; omega)
    omega
  have row : ∀ n, n < 7 → σ2 (c + n) = A (68 + n) := fun n hn => by
    rw [← hrow n hn, e2]
    unfold CPS
    rw [gUp_ne (by omega), gUr_ne (by omega), gUr_ne (by omega), gUr_ne (by omega), gUr_ne (by omega), gUr_ne (by omega), gUr_ne (by omega), gUr_ne (by omega), gUp_ne (by omega), gUp_ne (by omega), gUp_ne (by omega)]
  have q0 : σ2 c = A 68 := row 0 (by decide)
  have q1 : σ2 (c + 1) = A 69 := row 1 (by decide)
  have q2 : σ2 (c + 2) = A 70 := row 2 (by decide)
  have q3 : σ2 (c + 3) = A 71 := row 3 (by decide)
  have q4 : σ2 (c + 4) = A 72 := row 4 (by decide)
  have q5 : σ2 (c + 5) = A 73 := row 5 (by decide)
  have q6 : σ2 (c + 6) = A 74 := row 6 (by decide)
  have m173 : σ2 173 l = f := by rw [e2]; exact if_pos rfl
  have m174 : σ2 174 l = d := by rw [e2]; exact if_pos rfl
  have m175 : σ2 175 l = A 68 3 := by rw [e2, ← h175]; exact if_pos rfl
  have m176 : ∀ k : Int, 0 ≤ k → k < 8 → σ2 176 (8 * l + k) = τ 176 (48 + k) := fun k a b => by
    rw [e2]
    show cpy (τ 176) (8 * l) 8 (τ 176) 48 (8 * l + k) = _
    rw [cpy_in (by omega), show (48 : Int) + (8 * l + k - 8 * l) = 48 + k by omega]
  have m177 : ∀ k : Int, 0 ≤ k → k < 5 → σ2 177 (5 * l + k) = τ 177 (30 + k) := fun k a b => by
    rw [e2]
    show cpy (τ 177) (5 * l) 5 (τ 177) 30 (5 * l + k) = _
    rw [cpy_in (by omega), show (30 : Int) + (5 * l + k - 5 * l) = 30 + k by omega]
  have m178 : ∀ k : Int, 0 ≤ k → k < 10 → σ2 178 (10 * l + k) = τ 178 (60 + k) ∧ σ2 179 (10 * l + k) = τ 179 (60 + k) := fun k a b => by
    rw [e2]
    show cpy (τ 178) (10 * l) 10 (τ 178) 60 (10 * l + k) = _ ∧ cpy (τ 179) (10 * l) 10 (τ 179) 60 (10 * l + k) = _
    rw [cpy_in (by omega), cpy_in (by omega), show (60 : Int) + (10 * l + k - 10 * l) = 60 + k by omega]
    exact ⟨rfl, rfl⟩
  have m180 : ∀ k : Int, 0 ≤ k → k < A 68 15 → σ2 180 (200 * l + k) = τ 180 (1200 + k) ∧ σ2 181 (200 * l + k) = τ 181 (1200 + k) ∧ σ2 182 (200 * l + k) = τ 182 (1200 + k) := fun k a b => by
    rw [e2]
    show cpy (τ 180) (200 * l) (A 68 15) (τ 180) 1200 (200 * l + k) = _ ∧ cpy (τ 181) (200 * l) (A 68 15) (τ 181) 1200 (200 * l + k) = _ ∧ cpy (τ 182) (200 * l) (A 68 15) (τ 182) 1200 (200 * l + k) = _
    rw [cpy_in (by omega), cpy_in (by omega), cpy_in (by omega), show (1200 : Int) + (200 * l + k - 200 * l) = 1200 + k by omega]
    exact ⟨rfl, rfl, rfl⟩
  obtain ⟨r1, r2, r3, r4, r5, r6, r7, r8, r9⟩ := R
  obtain ⟨iT, iS, iN, iO, iZ, iR, iQ, iH, iC, i8⟩ := IB
  obtain ⟨n1, n2, n3, n4, m4, m5, m6, m7, m8⟩ := iN
  obtain ⟨u4, u5, u6, u7, u8⟩ := r7
  have z177 : σ2 177 (5 * l) = τ 177 30 := by
    have := m177 0 (by decide) (by decide)
    rw [Int.add_zero] at this
    exact this
  unfold lawR
  rw [q0, q1, q2, q3, q4, q5, q6, m173, m174, m175, z177, m177 1 (by decide) (by decide), m177 2 (by decide) (by decide), m177 3 (by decide) (by decide), m177 4 (by decide) (by decide)]
  refine ⟨h1.symm, h0.symm, by rw [h1]; exact hf, by rw [h0]; exact hd, rfl, n3.1, n3.2, fun k x y => ?_, ⟨u4, m4⟩, ⟨u5, m5⟩, ⟨u6, m6⟩, ⟨u7, m7⟩, ⟨u8, m8⟩, hzA.1, hzA.2, fun r x y => ?_⟩
  · rw [m176 k x (by omega), r6 k x y]
    exact ⟨rfl, n4 k x y⟩
  · rw [(m178 r x y).1, (m178 r x y).2]
    exact rulR_new (iR r x y (fun q => by omega)) (r9 r x y (fun q => q.elim)) r5 hzA.2 (fun k a b => (m180 k a b).1) (fun k a b => (m180 k a b).2.1) (fun k a b => (m180 k a b).2.2)
