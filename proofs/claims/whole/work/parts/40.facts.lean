/-! the facts of both systems together; the first calls keep them -/
def Facts (σ : gH) : Prop := S_day σ ∧ S_tape σ ∧ S_out σ ∧ S_party σ ∧ S_own σ ∧ S_kin σ ∧ S_post σ ∧ S_gift σ ∧ S_worth σ ∧ S_mem σ ∧ S_mat σ ∧ S_vote σ ∧ S_ent σ
theorem Facts.day {σ : gH} (h : Facts σ) : S_day σ := h.1
theorem Facts.tape {σ : gH} (h : Facts σ) : S_tape σ := h.2.1
theorem Facts.outs {σ : gH} (h : Facts σ) : S_out σ := h.2.2.1
theorem Facts.party {σ : gH} (h : Facts σ) : S_party σ := h.2.2.2.1
theorem Facts.own {σ : gH} (h : Facts σ) : S_own σ := h.2.2.2.2.1
theorem Facts.kin {σ : gH} (h : Facts σ) : S_kin σ := h.2.2.2.2.2.1
theorem Facts.post {σ : gH} (h : Facts σ) : S_post σ := h.2.2.2.2.2.2.1
theorem Facts.gift {σ : gH} (h : Facts σ) : S_gift σ := h.2.2.2.2.2.2.2.1
theorem Facts.worth {σ : gH} (h : Facts σ) : S_worth σ := h.2.2.2.2.2.2.2.2.1
theorem Facts.mem {σ : gH} (h : Facts σ) : S_mem σ := h.2.2.2.2.2.2.2.2.2.1
theorem Facts.mat {σ : gH} (h : Facts σ) : S_mat σ := h.2.2.2.2.2.2.2.2.2.2.1
theorem Facts.vote {σ : gH} (h : Facts σ) : S_vote σ := h.2.2.2.2.2.2.2.2.2.2.2.1
theorem Facts.ent {σ : gH} (h : Facts σ) : S_ent σ := h.2.2.2.2.2.2.2.2.2.2.2.2
theorem Facts.hz {σ : gH} (h : Facts σ) : 0 ≤ σ 41 11 ∧ σ 41 11 ≤ 120 ∧ 0 ≤ σ 41 16 ∧ σ 41 16 ≤ 200 := ⟨h.gift.2.1, h.gift.2.2.1, h.worth.2.1, h.worth.2.2.1⟩
theorem Facts.hm {σ : gH} (h : Facts σ) : 0 ≤ σ 133 42 ∧ σ 133 42 ≤ 120 ∧ 0 ≤ σ 133 43 ∧ σ 133 43 ≤ 200 := by
  have a := h.gift.1
  have b := h.worth.1
  have c := h.hz
  omega
theorem Facts.thrown {σ : gH} (h : Facts σ) : Facts (gUp σ 133 0 0) := ⟨h.day, h.tape, h.outs, h.party, h.own, h.kin, h.post, h.gift, h.worth, h.mem, h.mat, h.vote, h.ent⟩
theorem ci_back (g d : Int) : CI Facts mX11_back mX12_back [gI g, gI d] := by
  refine CI_of fun σ hg hI => ?_
  have hz := hI.hz
  have hm := hI.hm
  have hG := hI.gift
  have hD := hI.day
  have same : ∀ i, 0 ≤ i → i < σ 41 11 → σ 156 i = σ 45 i ∧ σ 160 i = σ 50 i := fun i h0 h1 => ⟨(hG.2.2.2 i h0 h1).1.2.2.2.1, (hG.2.2.2 i h0 h1).1.2.2.2.2.2.2.2.2.1⟩
  by_cases hP : (0 ≤ d ∧ d ≤ 9999) ∧ ((0 ≤ g ∧ g < σ 41 11) ∧ σ 45 g ≤ d) ∧ σ 50 g = -1
  · refine ⟨1, fun σ1 => σ1 = gUp (gUp σ 50 g d) 51 g (σ 0 4), (x_back σ hz g d).mono (fun v σ' q => ⟨q.1.trans (gbT hP).symm, q.2.trans (if_pos hP)⟩), ?_⟩
    intro σ1 _ e
    subst e
    have sg := same g (by omega) (by omega)
    have hQ : ((0 ≤ g ∧ g < σ 133 42) ∧ σ 156 g ≤ d ∧ d ≤ 9999) ∧ σ 160 g = -1 := by
      have := hG.1
      omega
    refine (m_back (gUp (gUp σ 50 g d) 51 g (σ 0 4)) hm g d).mono (fun v σ' q => ⟨q.1.trans (gbT hQ).symm, ?_⟩)
    rw [q.2.trans (if_pos hQ)]
    refine ⟨hI.day, hI.tape, hI.outs, hI.party, hI.own, hI.kin, hI.post, ?_, hI.worth, hI.mem, hI.mat, hI.vote, hI.ent⟩
    refine ⟨hG.1, hG.2.1, hG.2.2.1, fun i h0 h1 => ?_⟩
    obtain ⟨⟨a1, a2, a3, a4, a5, a6, a7, a8, a9, a10, a11⟩, b1, b2, b3, b4, b5, b6, b7, b8, b9, b10, b11⟩ := hG.2.2.2 i h0 h1
    by_cases hi : i = g
    · subst hi
      have e50 : (if i = i then d else σ 50 i) = d := if_pos rfl
      have e51 : (if i = i then σ 0 4 else σ 51 i) = σ 0 4 := if_pos rfl
      refine ⟨⟨a1, a2, a3, a4, a5, a6, a7, a8, ?_, fun _ => ?_, a11⟩, b1, b2, b3, b4, b5, b6, b7, b8, b9, .inr ?_, b11⟩
      · show (if i = i then d else σ 160 i) = (if i = i then d else σ 50 i)
        rw [if_pos rfl, if_pos rfl]
      · show (if i = i then σ 133 3 else σ 161 i) = (if i = i then σ 0 4 else σ 51 i)
        rw [if_pos rfl, if_pos rfl]
        exact hD.1
      · show isDy (if i = i then d else σ 50 i) ∧ isDy (if i = i then σ 0 4 else σ 51 i)
        rw [if_pos rfl, if_pos rfl]
        exact ⟨hP.1, hD.2.1, hD.2.2⟩
    · refine ⟨⟨a1, a2, a3, a4, a5, a6, a7, a8, ?_, ?_, a11⟩, b1, b2, b3, b4, b5, b6, b7, b8, b9, ?_, b11⟩
      · show (if i = g then d else σ 160 i) = (if i = g then d else σ 50 i)
        rw [if_neg hi, if_neg hi]
        exact a9
      · show (if i = g then d else σ 50 i) ≠ -1 → (if i = g then σ 133 3 else σ 161 i) = (if i = g then σ 0 4 else σ 51 i)
        rw [if_neg hi, if_neg hi, if_neg hi]
        exact a10
      · show (if i = g then d else σ 50 i) = -1 ∨ (isDy (if i = g then d else σ 50 i) ∧ isDy (if i = g then σ 0 4 else σ 51 i))
        rw [if_neg hi, if_neg hi]
        exact b10
  · refine ⟨0, fun σ1 => σ1 = σ, (x_back σ hz g d).mono (fun v σ' q => ⟨q.1.trans (gbF hP).symm, q.2.trans (if_neg hP)⟩), ?_⟩
    intro σ1 _ e
    subst e
    have hQ : ¬ (((0 ≤ g ∧ g < σ1 133 42) ∧ σ1 156 g ≤ d ∧ d ≤ 9999) ∧ σ1 160 g = -1) := by
      intro q
      have e1 := hG.1
      have sg := same g (by omega) (by omega)
      have e2 := (hG.2.2.2 g (by omega) (by omega)).2.2.2.2.2.2.1
      have e3 : 0 ≤ σ1 45 g := e2.1
      omega
    refine (m_back σ1 hm g d).mono (fun v σ' q => ⟨q.1.trans (gbF hQ).symm, ?_⟩)
    rw [q.2.trans (if_neg hQ)]
    exact hI.thrown
theorem ci_tell (g : Int) : CI Facts mX11_tell mX12_tell [gI g] := by
  refine CI_of fun σ hg hI => ?_
  have hz := hI.hz
  have hm := hI.hm
  have hG := hI.gift
  have hD := hI.day
  have same : ∀ i, 0 ≤ i → i < σ 41 11 → σ 162 i = σ 52 i := fun i h0 h1 => (hG.2.2.2 i h0 h1).1.2.2.2.2.2.2.2.2.2.2
  by_cases hP : (0 ≤ g ∧ g < σ 41 11) ∧ σ 52 g = -1
  · refine ⟨1, fun σ1 => σ1 = gUp σ 52 g (σ 0 4), (x_tell σ hz g).mono (fun v σ' q => ⟨q.1.trans (gbT hP).symm, q.2.trans (if_pos hP)⟩), ?_⟩
    intro σ1 _ e
    subst e
    have sg := same g (by omega) (by omega)
    have hQ : (0 ≤ g ∧ g < σ 133 42) ∧ σ 162 g = -1 := by
      have := hG.1
      omega
    refine (m_tell (gUp σ 52 g (σ 0 4)) hm g).mono (fun v σ' q => ⟨q.1.trans (gbT hQ).symm, ?_⟩)
    rw [q.2.trans (if_pos hQ)]
    refine ⟨hI.day, hI.tape, hI.outs, hI.party, hI.own, hI.kin, hI.post, ?_, hI.worth, hI.mem, hI.mat, hI.vote, hI.ent⟩
    refine ⟨hG.1, hG.2.1, hG.2.2.1, fun i h0 h1 => ?_⟩
    obtain ⟨⟨a1, a2, a3, a4, a5, a6, a7, a8, a9, a10, a11⟩, b1, b2, b3, b4, b5, b6, b7, b8, b9, b10, b11⟩ := hG.2.2.2 i h0 h1
    refine ⟨⟨a1, a2, a3, a4, a5, a6, a7, a8, a9, a10, ?_⟩, b1, b2, b3, b4, b5, b6, b7, b8, b9, b10, ?_⟩
    · show (if i = g then σ 133 3 else σ 162 i) = (if i = g then σ 0 4 else σ 52 i)
      by_cases hi : i = g
      · rw [if_pos hi, if_pos hi]
        exact hD.1
      · rw [if_neg hi, if_neg hi]
        exact a11
    · show (if i = g then σ 0 4 else σ 52 i) = -1 ∨ isDy (if i = g then σ 0 4 else σ 52 i)
      by_cases hi : i = g
      · rw [if_pos hi]
        exact .inr ⟨hD.2.1, hD.2.2⟩
      · rw [if_neg hi]
        exact b11
  · refine ⟨0, fun σ1 => σ1 = σ, (x_tell σ hz g).mono (fun v σ' q => ⟨q.1.trans (gbF hP).symm, q.2.trans (if_neg hP)⟩), ?_⟩
    intro σ1 _ e
    subst e
    have hQ : ¬ ((0 ≤ g ∧ g < σ1 133 42) ∧ σ1 162 g = -1) := by
      intro q
      have e1 := hG.1
      have sg := same g (by omega) (by omega)
      omega
    refine (m_tell σ1 hm g).mono (fun v σ' q => ⟨q.1.trans (gbF hQ).symm, ?_⟩)
    rw [q.2.trans (if_neg hQ)]
    exact hI.thrown
theorem ci_worth (g a b : Int) : CI Facts mX11_worth mX12_worth [gI g, gI a, gI b] := by
  refine CI_of fun σ hg hI => ?_
  have hz := hI.hz
  have hm := hI.hm
  have hG := hI.gift
  have hW := hI.worth
  have hD := hI.day
  have eG := hG.1
  have eW := hW.1
  by_cases hP : ((0 ≤ g ∧ g < σ 41 11) ∧ 0 ≤ a ∧ a ≤ b ∧ b ≤ 1000000) ∧ σ 41 16 < 200
  · refine ⟨1, fun σ1 => σ1 = gUp (gUp (gUp (gUp (gUp σ 53 (σ 41 16) g) 54 (σ 41 16) a) 55 (σ 41 16) b) 56 (σ 41 16) (σ 0 4)) 41 16 (σ 41 16 + 1), (x_worth σ hz g a b).mono (fun v σ' q => ⟨q.1.trans (gbT hP).symm, q.2.trans (if_pos hP)⟩), ?_⟩
    intro σ1 _ e
    subst e
    have hQ : ((0 ≤ g ∧ g < σ 133 42) ∧ 0 ≤ a ∧ a ≤ b ∧ b ≤ 1000000) ∧ σ 133 43 ≠ 200 := by omega
    refine (m_worth (gUp (gUp (gUp (gUp (gUp σ 53 (σ 41 16) g) 54 (σ 41 16) a) 55 (σ 41 16) b) 56 (σ 41 16) (σ 0 4)) 41 16 (σ 41 16 + 1)) hm g a b).mono (fun v σ' q => ⟨q.1.trans (gbT hQ).symm, ?_⟩)
    rw [q.2.trans (if_pos hQ)]
    refine ⟨hI.day, hI.tape, hI.outs, hI.party, hI.own, hI.kin, hI.post, hI.gift, ?_, hI.mem, hI.mat, hI.vote, hI.ent⟩
    refine ⟨?_, ?_, ?_, fun i h0 h1 => ?_⟩
    · show σ 133 43 + 1 = σ 41 16 + 1
      omega
    · show 0 ≤ σ 41 16 + 1
      omega
    · show σ 41 16 + 1 ≤ 200
      omega
    · have h2 : i < σ 41 16 + 1 := h1
      show (if i = σ 133 43 then g else σ 164 i) = (if i = σ 41 16 then g else σ 53 i) ∧ (if i = σ 133 43 then a else σ 165 i) = (if i = σ 41 16 then a else σ 54 i) ∧ (if i = σ 133 43 then b else σ 166 i) = (if i = σ 41 16 then b else σ 55 i) ∧ (if i = σ 133 43 then σ 133 3 else σ 167 i) = (if i = σ 41 16 then σ 0 4 else σ 56 i) ∧ 0 ≤ (if i = σ 41 16 then g else σ 53 i) ∧ (if i = σ 41 16 then g else σ 53 i) < σ 41 11 ∧ isWo (if i = σ 41 16 then a else σ 54 i) (if i = σ 41 16 then b else σ 55 i) ∧ isDy (if i = σ 41 16 then σ 0 4 else σ 56 i)
      rw [eW]
      by_cases hi : i = σ 41 16
      · simp only [if_pos hi]
        exact ⟨trivial, trivial, trivial, hD.1, by omega, by omega, ⟨by omega, by omega, by omega⟩, hD.2.1, hD.2.2⟩
      · simp only [if_neg hi]
        exact hW.2.2.2 i h0 (by omega)
  · refine ⟨0, fun σ1 => σ1 = σ, (x_worth σ hz g a b).mono (fun v σ' q => ⟨q.1.trans (gbF hP).symm, q.2.trans (if_neg hP)⟩), ?_⟩
    intro σ1 _ e
    subst e
    have hQ : ¬ (((0 ≤ g ∧ g < σ1 133 42) ∧ 0 ≤ a ∧ a ≤ b ∧ b ≤ 1000000) ∧ σ1 133 43 ≠ 200) := by omega
    refine (m_worth σ1 hm g a b).mono (fun v σ' q => ⟨q.1.trans (gbF hQ).symm, ?_⟩)
    rw [q.2.trans (if_neg hQ)]
    exact hI.thrown
