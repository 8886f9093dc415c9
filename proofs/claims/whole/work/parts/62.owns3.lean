/-! owns: the invariant, the call (gen/mod_owns3.py) -/
theorem ins_sum {n q : Int} {O O' : Int → Int} (h : isIns n q O O') (g : Int → Int) : ∀ k : Nat, q + k ≤ n → sumI (fun i => g (O' i)) (q + k + 1).toNat = sumI (fun i => g (O i)) (q + k).toNat + g n
  | 0, hk => by
    have e : sumI (fun i => g (O' i)) q.toNat = sumI (fun i => g (O i)) q.toNat := sumI_congr fun i a b => by rw [h.2.2.1 i a (by omega)]
    rw [show q + ((0 : Nat) : Int) = q by omega, sumI_s h.1, e, h.2.2.2.1]
  | k + 1, hk => by
    have ih := ins_sum h g k (by omega)
    have h0 := h.1
    rw [show q + ((k + 1 : Nat) : Int) = q + k + 1 by omega, sumI_s (show 0 ≤ q + (k : Int) + 1 by omega), ih, sumI_s (show 0 ≤ q + (k : Int) by omega), h.2.2.2.2 (q + k) (by omega) (by omega)]
    omega
theorem ins_all {n q : Int} {O O' : Int → Int} (h : isIns n q O O') (g : Int → Int) : sumI (fun i => g (O' i)) (n + 1).toNat = sumI (fun i => g (O i)) n.toNat + g n := by
  have k := ins_sum h g (n - q).toNat (by have := h.2.1; omega)
  rw [show q + ((n - q).toNat : Int) = n by have := h.2.1; omega] at k
  exact k
/-- the latest day ahead of d at which the sum can have grown -/
theorem max_day {of fr un : Int → Int} {f a d : Int} (h : a ≤ d) : ∀ n : Nat, ∃ m, (m = a ∨ ∃ i : Int, 0 ≤ i ∧ i < n ∧ of i = f ∧ a < fr i ∧ fr i ≤ d ∧ m = fr i) ∧ a ≤ m ∧ m ≤ d ∧ ∀ i : Int, 0 ≤ i → i < n → of i = f → fr i ≤ d → fr i ≤ m
  | 0 => ⟨a, Or.inl rfl, by omega, h, fun i x y => by omega⟩
  | n + 1 => by
    obtain ⟨m, h1, h2, h3, h4⟩ := max_day (of := of) (fr := fr) (un := un) (f := f) h n
    by_cases c : of n = f ∧ fr n ≤ d ∧ m < fr n
    · refine ⟨fr n, Or.inr ⟨n, by omega, by omega, c.1, by omega, c.2.1, rfl⟩, by omega, c.2.1, fun i x y z w => ?_⟩
      by_cases e : i = n
      · rw [e]; omega
      · have := h4 i x (by omega) z w
        omega
    · refine ⟨m, ?_, h2, h3, fun i x y z w => ?_⟩
      · rcases h1 with h1 | ⟨i, i0, i1, i2⟩
        · exact Or.inl h1
        · exact Or.inr ⟨i, i0, by omega, i2⟩
      · by_cases e : i = n
        · subst e
          by_cases e2 : m < fr n
          · exact absurd ⟨z, w, e2⟩ c
          · omega
        · exact h4 i x (by omega) z w
/-- no day has more than the whole, with the new part too -/
theorem whole_day {σ : gH} (hI : Inv σ) {f p a u d : Int} (hx : XC σ f p a u = 0) (h0 : a ≤ d) (h1 : u = -1 ∨ d < u) : p + ALL σ f d ≤ 10000 := by
  have n0 := hI.f.own.2.1
  obtain ⟨m, m1, m2, m3, m4⟩ := max_day (of := σ 17) (fr := σ 19) (un := σ 20) (f := f) h0 (σ 15 6).toNat
  have le : ALL σ f d ≤ ALL σ f m := by
    unfold ALL
    refine sumI_le fun i x y => ?_
    have r := own_row hI x (r := i) (by omega)
    unfold alT
    by_cases c : σ 17 i = f ∧ σ 19 i ≤ d ∧ (σ 20 i = -1 ∨ d < σ 20 i)
    · have := m4 i x y c.1 c.2.1
      rw [if_pos c, if_pos (by omega)]
      exact Int.le_refl _
    · rw [if_neg c]
      split <;> omega
  rcases m1 with e | ⟨i, i0, i1, i2, i3, i4, e⟩
  · by_cases c : 10000 < p + ALL σ f a
    · have := XC_1 (σ := σ) (u := u) c; omega
    · rw [e] at le; omega
  · by_cases c : 10000 < p + ALL σ f (σ 19 i)
    · have := XC_2 (σ := σ) (p := p) (a := a) (u := u) i0 (by omega) ⟨i2, i3, by omega, c⟩; omega
    · rw [e] at le; omega
set_option maxHeartbeats 4000000 in
theorem i_owns {σ : gH} (hI : Inv σ) (x f p a u : Int) (O : Int → Int) (q : Int) (hP : ((0 ≤ x ∧ x < σ 3 2) ∧ ((0 ≤ f ∧ f < σ 3 2) ∧ σ 4 f ≠ 0) ∧ x ≠ f ∧ 1 ≤ p ∧ p ≤ 10000) ∧ ((0 ≤ a ∧ a ≤ 9999) ∧ (u = -1 ∨ (0 ≤ u ∧ u ≤ 9999) ∧ a + 1 ≤ u)) ∧ XC σ f p a u = 0 ∧ σ 15 6 < 200) (hin : isIns (σ 15 6) q (σ 22) O) (hb1 : ∀ i, q ≤ i → i < σ 15 6 → behP σ x f (σ 22 i)) (hb2 : 0 < q → ¬ behP σ x f (σ 22 (q - 1))) : Inv (gUp (gUp (gUp (gUp (gUp (gUp (gUp (gUp (gUp (gUr (gUp (gUp (gUp (gUp (gUp (gUp (gUp σ 16 (σ 15 6) x) 17 (σ 15 6) f) 18 (σ 15 6) p) 19 (σ 15 6) a) 20 (σ 15 6) u) 21 (σ 15 6) (σ 0 4)) 15 6 (σ 15 6 + 1)) 22 O) 133 0 0) 137 (σ 15 6) x) 138 (σ 15 6) f) 139 (σ 15 6) p) 140 (σ 15 6) a) 141 (σ 15 6) (ev u)) 142 (σ 15 6) (σ 0 4)) 133 14 ((σ 15 6) + 1)) 133 7 ((σ 133 7) + 1)) := by
  refine ⟨⟨⟨hI.f.day, hI.f.tape, hI.f.outs, hI.f.party, ?_, hI.f.kin, hI.f.post, hI.f.gift, hI.f.worth, hI.f.mem, hI.f.mat, hI.f.vote, hI.f.ent⟩, hI.law, ?_⟩, ⟨hI.deg, ?_, ?_⟩, ⟨?_, ?_, ?_⟩⟩
  · have hS := hI.f.own
    refine ⟨?_, ?_, ?_, fun i h0 h1 => ?_⟩
    · exact rfl
    · show 0 ≤ σ 15 6 + 1
      have := hS.2.1
      omega
    · show σ 15 6 + 1 ≤ 200
      omega
    · have h2 : i < σ 15 6 + 1 := h1
      show (if i = σ 15 6 then x else σ 137 i) = (if i = σ 15 6 then x else σ 16 i) ∧ (if i = σ 15 6 then f else σ 138 i) = (if i = σ 15 6 then f else σ 17 i) ∧ (if i = σ 15 6 then p else σ 139 i) = (if i = σ 15 6 then p else σ 18 i) ∧ (if i = σ 15 6 then a else σ 140 i) = (if i = σ 15 6 then a else σ 19 i) ∧ (if i = σ 15 6 then ev u else σ 141 i) = ev ((if i = σ 15 6 then u else σ 20 i)) ∧ (if i = σ 15 6 then σ 0 4 else σ 142 i) = (if i = σ 15 6 then σ 0 4 else σ 21 i) ∧ isP σ ((if i = σ 15 6 then x else σ 16 i)) ∧ isHo σ ((if i = σ 15 6 then f else σ 17 i)) ∧ (if i = σ 15 6 then x else σ 16 i) ≠ (if i = σ 15 6 then f else σ 17 i) ∧ 1 ≤ (if i = σ 15 6 then p else σ 18 i) ∧ (if i = σ 15 6 then p else σ 18 i) ≤ 10000 ∧ okSpan ((if i = σ 15 6 then a else σ 19 i)) ((if i = σ 15 6 then u else σ 20 i)) 1 ∧ isDy ((if i = σ 15 6 then σ 0 4 else σ 21 i))
      by_cases hi : i = σ 15 6
      · simp only [if_pos hi]
        exact ⟨trivial, trivial, trivial, trivial, trivial, trivial, hP.1.1, hP.1.2.1, hP.1.2.2.1, hP.1.2.2.2.1, hP.1.2.2.2.2, hP.2.1, hI.f.day.2.1, hI.f.day.2.2⟩
      · simp only [if_neg hi]
        exact hS.2.2.2 i h0 (by omega)
  · have n0 := hI.f.own.2.1
    have Or := hI.ord
    obtain ⟨q0, q1, lo, at_, up⟩ := hin
    have old : ∀ i, 0 ≤ i → i < σ 15 6 → 0 ≤ σ 22 i ∧ σ 22 i < σ 15 6 := Or.1
    refine ⟨fun i h0 h1 => ?_, fun g => ?_, fun i h0 h1 => ?_, fun f2 d => ?_⟩
    · have h2 : i < σ 15 6 + 1 := h1
      show 0 ≤ O i ∧ O i < σ 15 6 + 1
      by_cases c : i < q
      · rw [lo i h0 c]; have := old i h0 (by omega); omega
      · by_cases c2 : i = q
        · rw [c2, at_]; omega
        · have e := up (i - 1) (by omega) (by omega)
          rw [show i - 1 + 1 = i by omega] at e
          rw [e]; have := old (i - 1) (by omega) (by omega); omega
    · show sumI (fun i => g (O i)) (σ 15 6 + 1).toNat = sumI g (σ 15 6 + 1).toNat
      rw [ins_all ⟨q0, q1, lo, at_, up⟩ g, Or.2.1 g, sumI_s n0]
    · have h2 : i + 1 < σ 15 6 + 1 := h1
      show (if O i = σ 15 6 then x else σ 16 (O i)) < (if O (i + 1) = σ 15 6 then x else σ 16 (O (i + 1))) ∨ ((if O i = σ 15 6 then x else σ 16 (O i)) = (if O (i + 1) = σ 15 6 then x else σ 16 (O (i + 1))) ∧ (if O i = σ 15 6 then f else σ 17 (O i)) ≤ (if O (i + 1) = σ 15 6 then f else σ 17 (O (i + 1))))
      by_cases c : i + 1 < q
      · rw [lo i h0 (by omega), lo (i + 1) (by omega) c]
        have o1 := old i h0 (by omega)
        have o2 := old (i + 1) (by omega) (by omega)
        rw [if_neg (by omega), if_neg (by omega), if_neg (by omega), if_neg (by omega)]
        exact Or.2.2.1 i h0 (by omega)
      · by_cases c2 : i + 1 = q
        · have o1 := old i h0 (by omega)
          rw [c2, at_, lo i h0 (by omega), if_neg (by omega), if_pos rfl, if_neg (by omega), if_pos rfl]
          have nb := hb2 (by omega)
          rw [show q - 1 = i by omega] at nb
          unfold behP at nb
          omega
        · by_cases c3 : i = q
          · rw [c3, at_, up q (by omega) (by omega)]
            have o1 := old q q0 (by omega)
            rw [if_pos rfl, if_neg (by omega), if_pos rfl, if_neg (by omega)]
            have nb := hb1 q (by omega) (by omega)
            unfold behP at nb
            omega
          · have e := up (i - 1) (by omega) (by omega)
            rw [show i - 1 + 1 = i by omega] at e
            rw [e, up i (by omega) (by omega)]
            have o1 := old (i - 1) (by omega) (by omega)
            have o2 := old i h0 (by omega)
            rw [if_neg (by omega), if_neg (by omega), if_neg (by omega), if_neg (by omega)]
            have s := Or.2.2.1 (i - 1) (by omega) (by omega)
            rw [show i - 1 + 1 = i by omega] at s
            exact s
    · show sumI (fun i => if (if i = σ 15 6 then f else σ 17 (i)) = f2 ∧ (if i = σ 15 6 then a else σ 19 (i)) ≤ d ∧ ((if i = σ 15 6 then u else σ 20 (i)) = -1 ∨ d < (if i = σ 15 6 then u else σ 20 (i))) then (if i = σ 15 6 then p else σ 18 (i)) else 0) (σ 15 6 + 1).toNat ≤ 10000
      rw [sumI_s n0]
      have e : sumI (fun i => if (if i = σ 15 6 then f else σ 17 (i)) = f2 ∧ (if i = σ 15 6 then a else σ 19 (i)) ≤ d ∧ ((if i = σ 15 6 then u else σ 20 (i)) = -1 ∨ d < (if i = σ 15 6 then u else σ 20 (i))) then (if i = σ 15 6 then p else σ 18 (i)) else 0) (σ 15 6).toNat = ALL σ f2 d := sumI_congr fun i x y => by
        have ne : ¬ i = σ 15 6 := by omega
        simp only [if_neg ne]
      rw [e]
      simp only [if_true]
      have al := ALL_in hI f2 d
      by_cases c : f = f2 ∧ a ≤ d ∧ (u = -1 ∨ d < u)
      · rw [if_pos c, ← c.1]
        have := whole_day hI hP.2.2.1 c.2.1 c.2.2
        omega
      · rw [if_neg c]
        omega
  · show σ 14 7 ≤ σ 15 6 + 1
    have := hI.arr.1
    omega
  · intro h
    have h2 : σ 14 7 = σ 15 6 + 1 := h
    have := hI.arr.1
    omega
  · show σ 133 7 + 1 = 1 + σ 133 6 + (σ 15 6 + 1)
    have h1 := hI.mod.1
    have h2 := hI.f14
    omega
  · show σ 133 49 ≤ σ 133 7 + 1
    have := hI.mod.2.1
    omega
  · intro h
    have h2 : σ 133 49 = σ 133 7 + 1 := h
    have := hI.mod.2.1
    omega
theorem ci_owns (x f p a u : Int) : CI Inv mX11_owns mX12_owns [gI x, gI f, gI p, gI a, gI u] := by
  refine CI_of fun σ hg hI => ?_
  by_cases hP : ((0 ≤ x ∧ x < σ 3 2) ∧ ((0 ≤ f ∧ f < σ 3 2) ∧ σ 4 f ≠ 0) ∧ x ≠ f ∧ 1 ≤ p ∧ p ≤ 10000) ∧ ((0 ≤ a ∧ a ≤ 9999) ∧ (u = -1 ∨ (0 ≤ u ∧ u ≤ 9999) ∧ a + 1 ≤ u)) ∧ XC σ f p a u = 0 ∧ σ 15 6 < 200
  · refine ⟨σ 15 6, fun σ1 => ∃ O q, isIns (σ 15 6) q (σ 22) O ∧ (∀ i, q ≤ i → i < σ 15 6 → behP σ x f (σ 22 i)) ∧ (0 < q → ¬ behP σ x f (σ 22 (q - 1))) ∧ σ1 = gUr (gUp (gUp (gUp (gUp (gUp (gUp (gUp σ 16 (σ 15 6) x) 17 (σ 15 6) f) 18 (σ 15 6) p) 19 (σ 15 6) a) 20 (σ 15 6) u) 21 (σ 15 6) (σ 0 4)) 15 6 (σ 15 6 + 1)) 22 O, (x_owns hI x f p a u).mono (fun v σ' r => ?_), fun σ1 _ e => ?_⟩
    · rcases r with r | r
      · exact ⟨r.2.1, r.2.2⟩
      · exact absurd hP r.1
    · obtain ⟨O, q, h1, h2, h3, rfl⟩ := e
      exact (m_ownsT hI x f p a u O hP).mono fun v σ' r => ⟨r.1, by rw [r.2]; exact i_owns hI x f p a u O q hP h1 h2 h3⟩
  · refine ⟨if ((0 ≤ x ∧ x < σ 3 2) ∧ ((0 ≤ f ∧ f < σ 3 2) ∧ σ 4 f ≠ 0) ∧ x ≠ f ∧ 1 ≤ p ∧ p ≤ 10000) then if ((0 ≤ a ∧ a ≤ 9999) ∧ (u = -1 ∨ (0 ≤ u ∧ u ≤ 9999) ∧ a + 1 ≤ u)) then if XC σ f p a u = 0 then -5 else -4 else -3 else -2, fun σ1 => σ1 = σ, (x_owns hI x f p a u).mono (fun v σ' r => ?_), fun σ1 _ e => ?_⟩
    · rcases r with r | r
      · exact absurd r.1 hP
      · exact ⟨r.2.1, r.2.2⟩
    · subst e
      exact (m_ownsF hI x f p a u hP).mono fun v σ' r => ⟨r.1, by rw [r.2]; exact hI.thrown⟩
