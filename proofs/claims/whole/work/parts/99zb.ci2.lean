/-! law: class and reference agree, the last call -/
theorem CPS_ne {τ : gH} {l f d z : Int} {k : Nat} (h1 : k ≠ 133) (h2 : ¬ (173 ≤ k ∧ k < 183)) : CPS τ l f d z k = τ k := by
  unfold CPS
  rw [gUp_ne h1, gUr_ne (by omega), gUr_ne (by omega), gUr_ne (by omega), gUr_ne (by omega), gUr_ne (by omega), gUr_ne (by omega), gUr_ne (by omega), gUp_ne (by omega), gUp_ne (by omega), gUp_ne (by omega)]
theorem CPS_A {τ : gH} {l f d z : Int} {i : Int} : (i ≠ l → CPS τ l f d z 173 i = τ 173 i ∧ CPS τ l f d z 174 i = τ 174 i ∧ CPS τ l f d z 175 i = τ 175 i) ∧ CPS τ l f d z 176 i = cpy (τ 176) (8 * l) 8 (τ 176) 48 i ∧ CPS τ l f d z 177 i = cpy (τ 177) (5 * l) 5 (τ 177) 30 i ∧ CPS τ l f d z 178 i = cpy (τ 178) (10 * l) 10 (τ 178) 60 i ∧ CPS τ l f d z 179 i = cpy (τ 179) (10 * l) 10 (τ 179) 60 i ∧ CPS τ l f d z 180 i = cpy (τ 180) (200 * l) z (τ 180) 1200 i ∧ CPS τ l f d z 181 i = cpy (τ 181) (200 * l) z (τ 181) 1200 i ∧ CPS τ l f d z 182 i = cpy (τ 182) (200 * l) z (τ 182) 1200 i := by
  refine ⟨fun h => ⟨?_, ?_, ?_⟩, rfl, rfl, rfl, rfl, rfl, rfl, rfl⟩
  · show (if i = l then f else τ 173 i) = τ 173 i
    rw [if_neg h]
  · show (if i = l then d else τ 174 i) = τ 174 i
    rw [if_neg h]
  · show (if i = l then τ 175 6 else τ 175 i) = τ 175 i
    rw [if_neg h]
theorem CPS_old {τ : gH} {l f d z : Int} {l' : Nat} (hl : (l' : Int) < l) {k : Nat} {i : Int} (h : mlw l' k i) : CPS τ l f d z k i = τ k i := by
  have a := CPS_A (τ := τ) (l := l) (f := f) (d := d) (z := z) (i := i)
  generalize CPS τ l f d z = Y at *
  obtain ⟨a1, a2, a3, a4, a5, a6, a7, a8⟩ := a
  rcases h with ⟨h1, h⟩ | ⟨h1, h⟩ | ⟨h1, h⟩ | ⟨h1, h⟩ | ⟨h1, h⟩
  · have b := a1 (by omega)
    rcases h1 with h1 | h1 | h1
    · rw [h1]; exact b.1
    · rw [h1]; exact b.2.1
    · rw [h1]; exact b.2.2
  · rw [h1, a2]; exact cpy_lo (by omega)
  · rw [h1, a3]; exact cpy_lo (by omega)
  · rcases h1 with h1 | h1
    · rw [h1, a4]; exact cpy_lo (by omega)
    · rw [h1, a5]; exact cpy_lo (by omega)
  · rcases h1 with h1 | h1 | h1
    · rw [h1, a6]; exact cpy_lo (by omega)
    · rw [h1, a7]; exact cpy_lo (by omega)
    · rw [h1, a8]; exact cpy_lo (by omega)
theorem Inv_good {c : Nat} {L f : Int} {σ σl A τ : gH} (hI : Inv σ) (hc : isD c) (hcn : c = 68 + 7 * (σ 57 2).toNat) (hn6 : σ 57 2 < 6) (hf : isDy f) (hG : AG c (gUp (gUp σ 0 1 0) 57 5 (c : Int)) σl A) (R : RLB L (MLB (gUp σl 57 2 (σ 57 2 + 1))) A τ False 0) (h175 : τ 175 6 = A 68 3) (IB : INVb L A) (h10 : A 57 6 = 10) (h3 : A 57 3 = 0) (hA0 : A 68 0 = σ 0 4) (hA1 : A 68 1 = f) {σ2 : gH} (e2 : σ2 = CPS τ (σ 57 2) f (σ 0 4) (A 68 15)) : Inv σ2 := by
  have hl := hI.law
  have h0n := hl.2.1
  have K := R.1
  have hc2 : 68 ≤ c ∧ c < 110 := by rcases hc with h | h | h | h | h | h <;> omega
  have e1 : ∀ k, k ≠ 0 → k ≠ 57 → k ≠ 66 → k ≠ 67 → (k < c ∨ c + 7 ≤ k) → (gUp σl 57 2 (σ 57 2 + 1)) k = σ k := fun k a1 a2 a3 a4 a5 => by
    rw [gUp_ne a2]; exact kc_fr hc hG a1 a2 a3 a4 a5
  have et : ∀ k, k ≠ 133 → ¬ (173 ≤ k ∧ k < 183) → k ≠ 186 → τ k = (gUp σl 57 2 (σ 57 2 + 1)) k := fun k a6 a7 a8 => by
    rw [← MLB_fr (σ := gUp σl 57 2 (σ 57 2 + 1)) a6 (by omega) (by omega) (by omega)]
    funext i
    refine K k i ?_
    unfold isR
    simp only [Bool.or_eq_false_iff, Bool.and_eq_false_iff, decide_eq_false_iff_not]
    refine ⟨⟨⟨⟨⟨⟨by omega, by omega⟩, by omega⟩, by omega⟩, by omega⟩, by omega⟩, by omega⟩
  have e : ∀ k, k ≠ 0 → k ≠ 57 → k ≠ 66 → k ≠ 67 → (k < c ∨ c + 7 ≤ k) → k ≠ 133 → ¬ (173 ≤ k ∧ k < 183) → k ≠ 186 → σ2 k = σ k := fun k a1 a2 a3 a4 a5 a6 a7 a8 => by
    rw [e2, CPS_ne a6 a7, et k a6 a7 a8]; exact e1 k a1 a2 a3 a4 a5
  have e133 : ∀ i, lwt 133 i = false → σ2 133 i = σ 133 i := fun i h => by
    have r := lwt_R h
    have m := r.2.2.2.2.2.2 rfl
    have x : CPS τ (σ 57 2) f (σ 0 4) (A 68 15) 133 i = τ 133 i := by
      show (if i = 77 then _ else τ 133 i) = τ 133 i
      rw [if_neg m.2.2.2.2.2.2.2.1]
    rw [e2, x, K 133 i r.1, MLB_133 m]
    exact congrFun (e1 133 (by decide) (by decide) (by decide) (by decide) (by omega)) i
  have r0 : σ2 0 = σl 0 := by rw [e2, CPS_ne (by decide) (by decide), et 0 (by decide) (by decide) (by decide), gUp_ne (by decide)]
  have e0 : ∀ i, i ≠ 1 → σ2 0 i = σ 0 i := fun i hi => by
    rw [r0, hG.fr (k := 0) (i := i) ⟨by decide, by decide, by omega, fun q => absurd q (by decide)⟩]
    exact if_neg hi
  have e01 : σ2 0 1 = 0 := by
    rw [r0, hG.fr (k := 0) (i := 1) ⟨by decide, by decide, by omega, fun q => absurd q (by decide)⟩]
    rfl
  have r57 : σ2 57 = (gUp σl 57 2 (σ 57 2 + 1)) 57 := by rw [e2, CPS_ne (by decide) (by decide), et 57 (by decide) (by decide) (by decide)]
  have e572 : σ2 57 2 = σ 57 2 + 1 := by rw [r57, gUp_at, if_pos rfl]
  have e573 : σ2 57 3 = 0 := by
    rw [r57, gUp_at, if_neg (by decide)]
    exact (hG.1 3 (by decide)).trans h3
  have e77 : σ2 133 77 = σ 57 2 + 1 := by rw [e2]; rfl
  have e60 : σ2 133 60 = 0 := by
    rw [e2]
    show τ 133 60 = 0
    rw [K 133 60 (by rfl)]
    rfl
  have ex2 : σ2 133 2 = 0 := by
    rw [e2]
    show τ 133 2 = 0
    rw [K 133 2 (by rfl)]
    rfl
  refine Inv_frame hI (fun k i h => ?_) ex2 e01 ?_
  · have r := lwt_R h
    by_cases k0 : k = 0
    · subst k0; exact e0 i (fun q => r.2.1 ⟨rfl, q⟩)
    · by_cases k1 : k = 133
      · subst k1; exact e133 i h
      · rw [e k k0 r.2.2.1 (by omega) (by omega) (by omega) k1 r.2.2.2.2.1 r.2.2.2.2.2.1]
  · refine S_law_of (by rw [e77, e572]) (by rw [e572]; omega) (by rw [e60, e573]) (fun l hlt => ?_) ?_
    · rw [e572] at hlt
      by_cases hx : (l : Int) < σ 57 2
      · refine lawR_cg (law_atN hl hx) (fun k a b => e k (by omega) (by omega) (by omega) (by omega) (by omega) (by omega) (by omega) (by omega)) (fun k i hm => ?_)
        have km : 173 ≤ k ∧ k < 183 := by unfold mlw at hm; omega
        rw [e2, CPS_old hx hm, KR_mlw K (l := l) (by omega) hm]
        exact congrFun (e1 k (by omega) (by omega) (by omega) (by omega) (by omega)) i
      · have el : (l : Int) = σ 57 2 := by omega
        have ec : 68 + 7 * l = c := by rw [hcn, ← el, Int.toNat_natCast]
        rw [ec]
        refine lawR_new IB h10 R h175 (l := l) (by omega) hf hI.f.day.2 (by rw [el]; exact e2) hc2.2 (fun n hn => ?_) hA0 hA1
        rw [et (c + n) (by omega) (by omega) (by omega), gUp_ne (by omega)]
        exact hG.dd n hn
    · exact S_emp_row hl.2.2.2.2.2 (e _ (by decide) (by decide) (by decide) (by decide) (by omega) (by decide) (by decide) (by decide)) (e _ (by decide) (by decide) (by decide) (by decide) (by omega) (by decide) (by decide) (by decide)) (e _ (by decide) (by decide) (by decide) (by decide) (by omega) (by decide) (by decide) (by decide)) (e _ (by decide) (by decide) (by decide) (by decide) (by omega) (by decide) (by decide) (by decide)) (e _ (by decide) (by decide) (by decide) (by decide) (by omega) (by decide) (by decide) (by decide)) (e _ (by decide) (by decide) (by decide) (by decide) (by omega) (by decide) (by decide) (by decide))
theorem S_emp.cst {σ : gH} (h : S_emp σ) : CST σ ∧ (σ 183 0 = 1 ∧ σ 183 1 = 365 ∧ σ 183 2 = 365 ∧ σ 183 3 = 90 ∧ σ 183 4 = 0) := by
  obtain ⟨_, _, _, _, _, _, _, _, _, _, u0, u1, u2, u3, u4, l0, l1, l2, l3, l4, h0, h1, h2, h3, h4⟩ := h
  exact ⟨⟨l0, l1, l2, l3, l4, h0, h1, h2, h3, h4⟩, u0, u1, u2, u3, u4⟩
theorem ci_law (f : Int) : CI Inv mX11_law mX12_law [gI f] := by
  refine CI_of fun σ hg hI => ?_
  have hl := hI.law
  have h58 := lw58 hg
  have hT := hI.f.tape
  have hemp := hl.2.2.2.2.2.cst
  by_cases hp : σ 57 2 < 6 ∧ isDy f
  · have hc : isD (clw (σ 57 2)) := clw_D hl.2.1 hp.1
    have hc2 : 68 ≤ clw (σ 57 2) ∧ clw (σ 57 2) + 7 ≤ 110 := by rcases hc with h | h | h | h | h | h <;> omega
    have IB0 : INV (σ 0 1) (BEG (SOF (clw (σ 57 2)) (gUp (gUp σ 0 1 0) 57 5 ((clw (σ 57 2) : Nat) : Int))) f (σ 0 4) (σ 0 1)) := INV_beg ⟨hT.2.1, hT.2.2.1⟩
    refine ⟨RES (σ 134) (σ 0 1) (BEG (SOF (clw (σ 57 2)) (gUp (gUp σ 0 1 0) 57 5 ((clw (σ 57 2) : Nat) : Int))) f (σ 0 4) (σ 0 1)), fun σ1 => ∃ σl A, AG (clw (σ 57 2)) (gUp (gUp σ 0 1 0) 57 5 ((clw (σ 57 2) : Nat) : Int)) σl A ∧ RCH (σ 134) (σ 0 1) (BEG (SOF (clw (σ 57 2)) (gUp (gUp σ 0 1 0) 57 5 ((clw (σ 57 2) : Nat) : Int))) f (σ 0 4) (σ 0 1)) A ∧ FIN A ∧ (A 57 3 ≠ 0 → σ1 = σl) ∧ (A 57 3 = 0 → σ1 = gUp σl 57 2 (σ 57 2 + 1)), ?_, fun σ1 hg1 hJ => ?_⟩
    · refine (kc_law hc ⟨hl.2.1, hp.1⟩ (h58 _ hl.2.1 hp.1) f hp.2 ⟨hT.2.1, hT.2.2.1⟩).mono fun v σ1 h => ?_
      obtain ⟨σl, A, h1, h2, h3, h4, h5, h6⟩ := h
      have h2' := RCH_cg IB0 (T' := σ 134) (fun i a b => (hT.2.2.2 i a b).1.symm) h2
      exact ⟨by rw [h4, RES_eq h2' h3], σl, A, h1, h2', h3, h5, h6⟩
    · obtain ⟨σl, A, g1, g2, g3, g4, g5⟩ := hJ
      have row : ∀ k, k ≠ 0 → k ≠ 57 → k ≠ 66 → k ≠ 67 → (k < clw (σ 57 2) ∨ clw (σ 57 2) + 7 ≤ k) → σ1 k = σ k := fun k a1 a2 a3 a4 a5 => by
        have x := kc_fr hc g1 a1 a2 a3 a4 a5
        by_cases z : A 57 3 = 0
        · rw [g5 z, gUp_ne a2]; exact x
        · rw [g4 z]; exact x
      have r133 : σ1 133 = σ 133 := row 133 (by decide) (by decide) (by decide) (by decide) (by omega)
      have r134 : σ1 134 = σ 134 := row 134 (by decide) (by decide) (by decide) (by decide) (by omega)
      have r183 : σ1 183 = σ 183 := row 183 (by decide) (by decide) (by decide) (by decide) (by omega)
      have r184 : σ1 184 = σ 184 := row 184 (by decide) (by decide) (by decide) (by decide) (by omega)
      have r185 : σ1 185 = σ 185 := row 185 (by decide) (by decide) (by decide) (by decide) (by omega)
      refine (mr_law (σ := σ1) (T := σ 134) (L := σ 0 1) IB0 BG0_beg r134.symm (by rw [r133]; exact hT.1) ⟨hT.2.1, hT.2.2.1⟩ f hp.2 (by rw [r133, hl.1]; exact ⟨hl.2.1, hp.1⟩) (by unfold CST; rw [r184, r185]; exact hemp.1) (by rw [r183]; exact hemp.2)).mono fun v σ2 h => ?_
      obtain ⟨B, b1, b2, b3⟩ := h
      have eBA : B = A := b1.one b2 g2 g3
      subst eBA
      rw [RES_eq g2 g3]
      unfold RSA
      have hA68 := RCH_68 g2
      rcases b3 with ⟨b3, b4, b5, τ, y, z, b6, b7⟩ | ⟨b3, b4, b5, τ, b6, b7, b8⟩
      · rw [if_neg b3]
        refine ⟨b4, ?_⟩
        rw [g4 b3] at b6
        rw [b7]
        exact Inv_bad hI hc rfl g1 b6 (by rw [← b7]; exact b5)
      · rw [if_pos b3]
        refine ⟨b5, ?_⟩
        rw [g5 b3] at b6
        rw [r133, hl.1] at b8
        refine Inv_good hI hc rfl hp.1 hp.2 g1 b6 b7 ((g2.inv IB0) b3) b4 b3 ?_ ?_ (by rw [b8, hI.f.day.1])
        · rw [hA68.1]; rfl
        · rw [hA68.2]; rfl
  · refine ⟨-1000, fun σ1 => σ1 = gUp σ 0 1 0, ?_, fun σ1 hg1 hJ => ?_⟩
    · by_cases h6 : σ 57 2 < 6
      · exact (kc_lawN (clw_D hl.2.1 h6) ⟨hl.2.1, hl.2.2.1⟩ (fun _ => h58 _ hl.2.1 h6) f hp).mono fun v σ1 h => ⟨h.1, h.2⟩
      · exact (kc_lawN (c := 68) (Or.inl rfl) ⟨hl.2.1, hl.2.2.1⟩ (fun q => absurd q h6) f hp).mono fun v σ1 h => ⟨h.1, h.2⟩
    · rw [hJ]
      refine (mr_lawN (σ := gUp σ 0 1 0) f (by show 0 ≤ σ 133 77 ∧ σ 133 77 ≤ 6; rw [hl.1]; exact ⟨hl.2.1, hl.2.2.1⟩) (by
        show σ 133 77 = 6 ∨ ¬ isDy f
        rw [hl.1]
        by_cases h6 : σ 57 2 < 6
        · exact Or.inr fun q => hp ⟨h6, q⟩
        · exact Or.inl (by have := hl.2.2.1; omega))).mono fun v σ2 h => ?_
      obtain ⟨rfl, rfl⟩ := h
      exact ⟨rfl, Inv_refuse hI⟩
