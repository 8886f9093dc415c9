/-! more calls that add facts (gen/mod_simp2.py) -/
theorem ci_back (g d : Int) : CI Inv mX11_back mX12_back [gI g, gI d] := by
  refine CI_of fun σ hg hI => ?_
  have hz := hI.f.hz
  have hm := hI.f.hm
  have hG := hI.f.gift
  have hD := hI.f.day
  have same : ∀ i, 0 ≤ i → i < σ 41 11 → σ 156 i = σ 45 i ∧ σ 160 i = σ 50 i := fun i h0 h1 => ⟨(hG.2.2.2 i h0 h1).1.2.2.2.1, (hG.2.2.2 i h0 h1).1.2.2.2.2.2.2.2.2.1⟩
  by_cases hP : (0 ≤ d ∧ d ≤ 9999) ∧ ((0 ≤ g ∧ g < σ 41 11) ∧ σ 45 g ≤ d) ∧ σ 50 g = -1
  · refine ⟨1, fun σ1 => σ1 = gUp (gUp σ 50 g d) 51 g (σ 0 4), (x_back σ hz g d).mono (fun v σ' q => ⟨q.1.trans (gbT hP).symm, q.2.trans (if_pos hP)⟩), ?_⟩
    intro σ1 _ e
    subst e
    have sg := same g (by omega) (by omega)
    have hQ : ((0 ≤ g ∧ g < σ 133 42) ∧ σ 156 g ≤ d ∧ d ≤ 9999) ∧ σ 160 g = -1 := by
      have := hG.1
      omega
    refine (m_back (gUp (gUp σ 50 g d) 51 g (σ 0 4)) hm g d).mono (fun v σ' q => ⟨q.1.trans (gbT hQ).symm, ?_⟩)
    rw [q.2.trans (if_pos hQ)]
    refine ⟨⟨⟨hI.f.day, hI.f.tape, hI.f.outs, hI.f.party, hI.f.own, hI.f.kin, hI.f.post, ?_, hI.f.worth, hI.f.mem, hI.f.mat, hI.f.vote, hI.f.ent⟩, hI.law, hI.ord⟩, hI.2.1, hI.mod⟩
    refine ⟨hG.1, hG.2.1, hG.2.2.1, fun i h0 h1 => ?_⟩
    obtain ⟨⟨a1, a2, a3, a4, a5, a6, a7, a8, a9, a10, a11⟩, b1, b2, b3, b4, b5, b6, b7, b8, b9, b10, b11⟩ := hG.2.2.2 i h0 h1
    by_cases hi : i = g
    · subst hi
      have e50 : (if i = i then d else σ 50 i) = d := if_pos rfl
      have e51 : (if i = i then σ 0 4 else σ 51 i) = σ 0 4 := if_pos rfl
      refine ⟨⟨a1, a2, a3, a4, a5, a6, a7, a8, ?_, fun _ => ?_, a11⟩, b1, b2, b3, b4, b5, b6, b7, b8, b9, .inr ?_, b11⟩
      · show (if i = i then d else σ 160 i) = (if i = i then d else σ 50 i)
        rw [if_pos rfl, if_pos rfl]
      · show (if i = i then σ 133 3 else σ 161 i) = (if i = i then σ 0 4 else σ 51 i)
        rw [if_pos rfl, if_pos rfl]
        exact hD.1
      · show isDy (if i = i then d else σ 50 i) ∧ isDy (if i = i then σ 0 4 else σ 51 i)
        rw [if_pos rfl, if_pos rfl]
        exact ⟨hP.1, hD.2.1, hD.2.2⟩
    · refine ⟨⟨a1, a2, a3, a4, a5, a6, a7, a8, ?_, ?_, a11⟩, b1, b2, b3, b4, b5, b6, b7, b8, b9, ?_, b11⟩
      · show (if i = g then d else σ 160 i) = (if i = g then d else σ 50 i)
        rw [if_neg hi, if_neg hi]
        exact a9
      · show (if i = g then d else σ 50 i) ≠ -1 → (if i = g then σ 133 3 else σ 161 i) = (if i = g then σ 0 4 else σ 51 i)
        rw [if_neg hi, if_neg hi, if_neg hi]
        exact a10
      · show (if i = g then d else σ 50 i) = -1 ∨ (isDy (if i = g then d else σ 50 i) ∧ isDy (if i = g then σ 0 4 else σ 51 i))
        rw [if_neg hi, if_neg hi]
        exact b10
  · refine ⟨0, fun σ1 => σ1 = σ, (x_back σ hz g d).mono (fun v σ' q => ⟨q.1.trans (gbF hP).symm, q.2.trans (if_neg hP)⟩), ?_⟩
    intro σ1 _ e
    subst e
    have hQ : ¬ (((0 ≤ g ∧ g < σ1 133 42) ∧ σ1 156 g ≤ d ∧ d ≤ 9999) ∧ σ1 160 g = -1) := by
      intro q
      have e1 := hG.1
      have sg := same g (by omega) (by omega)
      have e2 := (hG.2.2.2 g (by omega) (by omega)).2.2.2.2.2.2.1
      have e3 : 0 ≤ σ1 45 g := e2.1
      omega
    refine (m_back σ1 hm g d).mono (fun v σ' q => ⟨q.1.trans (gbF hQ).symm, ?_⟩)
    rw [q.2.trans (if_neg hQ)]
    exact hI.thrown
theorem ci_tell (g : Int) : CI Inv mX11_tell mX12_tell [gI g] := by
  refine CI_of fun σ hg hI => ?_
  have hz := hI.f.hz
  have hm := hI.f.hm
  have hG := hI.f.gift
  have hD := hI.f.day
  have same : ∀ i, 0 ≤ i → i < σ 41 11 → σ 162 i = σ 52 i := fun i h0 h1 => (hG.2.2.2 i h0 h1).1.2.2.2.2.2.2.2.2.2.2
  by_cases hP : (0 ≤ g ∧ g < σ 41 11) ∧ σ 52 g = -1
  · refine ⟨1, fun σ1 => σ1 = gUp σ 52 g (σ 0 4), (x_tell σ hz g).mono (fun v σ' q => ⟨q.1.trans (gbT hP).symm, q.2.trans (if_pos hP)⟩), ?_⟩
    intro σ1 _ e
    subst e
    have sg := same g (by omega) (by omega)
    have hQ : (0 ≤ g ∧ g < σ 133 42) ∧ σ 162 g = -1 := by
      have := hG.1
      omega
    refine (m_tell (gUp σ 52 g (σ 0 4)) hm g).mono (fun v σ' q => ⟨q.1.trans (gbT hQ).symm, ?_⟩)
    rw [q.2.trans (if_pos hQ)]
    refine ⟨⟨⟨hI.f.day, hI.f.tape, hI.f.outs, hI.f.party, hI.f.own, hI.f.kin, hI.f.post, ?_, hI.f.worth, hI.f.mem, hI.f.mat, hI.f.vote, hI.f.ent⟩, hI.law, hI.ord⟩, hI.2.1, hI.mod⟩
    refine ⟨hG.1, hG.2.1, hG.2.2.1, fun i h0 h1 => ?_⟩
    obtain ⟨⟨a1, a2, a3, a4, a5, a6, a7, a8, a9, a10, a11⟩, b1, b2, b3, b4, b5, b6, b7, b8, b9, b10, b11⟩ := hG.2.2.2 i h0 h1
    refine ⟨⟨a1, a2, a3, a4, a5, a6, a7, a8, a9, a10, ?_⟩, b1, b2, b3, b4, b5, b6, b7, b8, b9, b10, ?_⟩
    · show (if i = g then σ 133 3 else σ 162 i) = (if i = g then σ 0 4 else σ 52 i)
      by_cases hi : i = g
      · rw [if_pos hi, if_pos hi]
        exact hD.1
      · rw [if_neg hi, if_neg hi]
        exact a11
    · show (if i = g then σ 0 4 else σ 52 i) = -1 ∨ isDy (if i = g then σ 0 4 else σ 52 i)
      by_cases hi : i = g
      · rw [if_pos hi]
        exact .inr ⟨hD.2.1, hD.2.2⟩
      · rw [if_neg hi]
        exact b11
  · refine ⟨0, fun σ1 => σ1 = σ, (x_tell σ hz g).mono (fun v σ' q => ⟨q.1.trans (gbF hP).symm, q.2.trans (if_neg hP)⟩), ?_⟩
    intro σ1 _ e
    subst e
    have hQ : ¬ ((0 ≤ g ∧ g < σ1 133 42) ∧ σ1 162 g = -1) := by
      intro q
      have e1 := hG.1
      have sg := same g (by omega) (by omega)
      omega
    refine (m_tell σ1 hm g).mono (fun v σ' q => ⟨q.1.trans (gbF hQ).symm, ?_⟩)
    rw [q.2.trans (if_neg hQ)]
    exact hI.thrown
theorem ci_worth (g a b : Int) : CI Inv mX11_worth mX12_worth [gI g, gI a, gI b] := by
  refine CI_of fun σ hg hI => ?_
  have hz := hI.f.hz
  have hm := hI.f.hm
  have hG := hI.f.gift
  have hW := hI.f.worth
  have hD := hI.f.day
  have eG := hG.1
  have eW := hW.1
  by_cases hP : ((0 ≤ g ∧ g < σ 41 11) ∧ 0 ≤ a ∧ a ≤ b ∧ b ≤ 1000000) ∧ σ 41 16 < 200
  · refine ⟨1, fun σ1 => σ1 = gUp (gUp (gUp (gUp (gUp σ 53 (σ 41 16) g) 54 (σ 41 16) a) 55 (σ 41 16) b) 56 (σ 41 16) (σ 0 4)) 41 16 (σ 41 16 + 1), (x_worth σ hz g a b).mono (fun v σ' q => ⟨q.1.trans (gbT hP).symm, q.2.trans (if_pos hP)⟩), ?_⟩
    intro σ1 _ e
    subst e
    have hQ : ((0 ≤ g ∧ g < σ 133 42) ∧ 0 ≤ a ∧ a ≤ b ∧ b ≤ 1000000) ∧ σ 133 43 ≠ 200 := by omega
    refine (m_worth (gUp (gUp (gUp (gUp (gUp σ 53 (σ 41 16) g) 54 (σ 41 16) a) 55 (σ 41 16) b) 56 (σ 41 16) (σ 0 4)) 41 16 (σ 41 16 + 1)) hm g a b).mono (fun v σ' q => ⟨q.1.trans (gbT hQ).symm, ?_⟩)
    rw [q.2.trans (if_pos hQ)]
    refine ⟨⟨⟨hI.f.day, hI.f.tape, hI.f.outs, hI.f.party, hI.f.own, hI.f.kin, hI.f.post, hI.f.gift, ?_, hI.f.mem, hI.f.mat, hI.f.vote, hI.f.ent⟩, hI.law, hI.ord⟩, hI.2.1, hI.mod⟩
    refine ⟨?_, ?_, ?_, fun i h0 h1 => ?_⟩
    · show σ 133 43 + 1 = σ 41 16 + 1
      omega
    · show 0 ≤ σ 41 16 + 1
      omega
    · show σ 41 16 + 1 ≤ 200
      omega
    · have h2 : i < σ 41 16 + 1 := h1
      show (if i = σ 133 43 then g else σ 164 i) = (if i = σ 41 16 then g else σ 53 i) ∧ (if i = σ 133 43 then a else σ 165 i) = (if i = σ 41 16 then a else σ 54 i) ∧ (if i = σ 133 43 then b else σ 166 i) = (if i = σ 41 16 then b else σ 55 i) ∧ (if i = σ 133 43 then σ 133 3 else σ 167 i) = (if i = σ 41 16 then σ 0 4 else σ 56 i) ∧ 0 ≤ (if i = σ 41 16 then g else σ 53 i) ∧ (if i = σ 41 16 then g else σ 53 i) < σ 41 11 ∧ isWo (if i = σ 41 16 then a else σ 54 i) (if i = σ 41 16 then b else σ 55 i) ∧ isDy (if i = σ 41 16 then σ 0 4 else σ 56 i)
      rw [eW]
      by_cases hi : i = σ 41 16
      · simp only [if_pos hi]
        exact ⟨trivial, trivial, trivial, hD.1, by omega, by omega, ⟨by omega, by omega, by omega⟩, hD.2.1, hD.2.2⟩
      · simp only [if_neg hi]
        exact hW.2.2.2 i h0 (by omega)
  · refine ⟨0, fun σ1 => σ1 = σ, (x_worth σ hz g a b).mono (fun v σ' q => ⟨q.1.trans (gbF hP).symm, q.2.trans (if_neg hP)⟩), ?_⟩
    intro σ1 _ e
    subst e
    have hQ : ¬ (((0 ≤ g ∧ g < σ1 133 42) ∧ 0 ≤ a ∧ a ≤ b ∧ b ≤ 1000000) ∧ σ1 133 43 ≠ 200) := by omega
    refine (m_worth σ1 hm g a b).mono (fun v σ' q => ⟨q.1.trans (gbF hQ).symm, ?_⟩)
    rw [q.2.trans (if_neg hQ)]
    exact hI.thrown
def anyB (P : Int → Bool) : Nat → Bool
  | 0 => false
  | n + 1 => anyB P n || P n
theorem anyB_iff {P : Int → Bool} : ∀ {n : Nat}, anyB P n = true ↔ ∃ i : Int, 0 ≤ i ∧ i < n ∧ P i = true
  | 0 => ⟨fun h => absurd (show false = true from h) (by decide), fun ⟨i, a, b, _⟩ => by omega⟩
  | n + 1 => by
    show (anyB P n || P n) = true ↔ _
    rw [Bool.or_eq_true, anyB_iff (n := n)]
    constructor
    · rintro (⟨i, a, b, c⟩ | h)
      · exact ⟨i, a, by omega, c⟩
      · exact ⟨n, by omega, by omega, h⟩
    · rintro ⟨i, a, b, c⟩
      by_cases e : i = n
      · exact Or.inr (e ▸ c)
      · exact Or.inl ⟨i, a, by omega, c⟩
/-- whether any of the first n is so, as 0 or 1 -/
def anyI (P : Int → Prop) [DecidablePred P] (n : Int) : Int := gb (anyB (fun i => decide (P i)) n.toNat = true)
theorem anyI_01 {P : Int → Prop} [DecidablePred P] {n : Int} : anyI P n = 0 ∨ anyI P n = 1 := gb_01 _
theorem anyI_1 {P : Int → Prop} [DecidablePred P] {n i : Int} (h0 : 0 ≤ i) (h1 : i < n) (h : P i) : anyI P n = 1 := gb_t (anyB_iff.mpr ⟨i, h0, by omega, decide_eq_true h⟩)
theorem anyI_0 {P : Int → Prop} [DecidablePred P] {n : Int} (h : ∀ i, 0 ≤ i → i < n → ¬ P i) : anyI P n = 0 := gb_f (fun k => by
  obtain ⟨i, a, b, c⟩ := anyB_iff.mp k
  exact h i a (by omega) (of_decide_eq_true c))
theorem anyI_ex {P : Int → Prop} [DecidablePred P] {n : Int} (h : anyI P n ≠ 0) : ∃ i, 0 ≤ i ∧ i < n ∧ P i := by
  obtain ⟨i, a, b, c⟩ := anyB_iff.mp (gb_ne0.mp h)
  exact ⟨i, a, by omega, of_decide_eq_true c⟩
theorem anyI_congr {P R : Int → Prop} [DecidablePred P] [DecidablePred R] {n : Int} (h : ∀ i, 0 ≤ i → i < n → (P i ↔ R i)) : anyI P n = anyI R n := by
  by_cases e : anyI P n = 0
  · rw [e]
    refine (anyI_0 fun i a b r => ?_).symm
    have := anyI_1 (P := P) a b ((h i a b).mpr r)
    omega
  · obtain ⟨i, a, b, c⟩ := anyI_ex e
    rw [anyI_1 a b c, anyI_1 a b ((h i a b).mp c)]
/-- whether p is of the council -/
def MB (σ : gH) (p : Int) : Int := anyI (fun i => σ 126 i = p) (σ 125 2)
def VT (σ : gH) (m p : Int) : Int := anyI (fun i => σ 129 i = m ∧ σ 130 i = p) (σ 125 10)
theorem MB_01 (σ : gH) (p : Int) : MB σ p = 0 ∨ MB σ p = 1 := anyI_01
theorem VT_01 (σ : gH) (m p : Int) : VT σ m p = 0 ∨ VT σ m p = 1 := anyI_01
theorem MB_pe {σ : gH} (hI : Inv σ) {p : Int} (h : MB σ p ≠ 0) : (0 ≤ p ∧ p < σ 3 2) ∧ σ 4 p = 0 := by
  obtain ⟨i, a, b, c⟩ := anyI_ex h
  rw [← c]
  exact (hI.f.mem.2.2.2 i a b).2
theorem k_isMember (σ : gH) (hs : σ 125 2 ≤ 12) (p : Int) : Mt mX1_isMember 0 [gR 125, gI p] σ (rE (gI (MB σ p)) σ) := by
  refine Mt.walk (ls := [gR 125, gI p, gX 1]) pn_X1 rfl (fun _ _ h => by cases h.1) (Nat.le_of_ble_eq_true rfl) rfl ?_
  refine w_iconst (pc' := 1) (by decide) dX1_isMember_0 rfl ?_
  refine w_istore_n (pc' := 2) (i := 2) (ls' := [gR 125, gI p, gI 0]) (by rfl) (by decide) (by rfl) dX1_isMember_1 rfl ?_
  have hl_2 : ∀ (mm : Nat) (i : Int), (σ 125 2 - i).toNat = mm → (0 ≤ i) → (∀ j, 0 ≤ j → j < i → ¬ (σ 126 j = p)) → Wp mX1_isMember 0 (rE (gI (MB σ p)) σ) σ 2 [gR 125, gI p, gI i] [] := by
    intro m_2
    induction m_2 using Nat.strongRecOn with
    | _ m_2 ih_2 =>
      intro i hmeas_2 h0 hz
      refine w_iload_n (pc' := 3) (i := 2) (by rfl) (by rfl) dX1_isMember_2 rfl ?_
      refine w_aload_n (pc' := 4) (i := 0) (by rfl) (by rfl) dX1_isMember_3 rfl ?_
      refine v_getI (pc' := 7) (ji := 2) rfl fg_X1_38 kd_125 dX1_isMember_4 rfl ?_
      refine w_icmp_ge (pc' := 10) (t := 34) dX1_isMember_7 rfl rfl (fun c_7 => ?_) (fun c_7 => ?_)
      · skip
        refine w_iconst (pc' := 35) (by decide) dX1_isMember_34 rfl ?_
        refine w_zreturn rfl (.inl rfl) dX1_isMember_35 ?_
        first | (exfalso; omega) | exact ⟨congrArg gI (anyI_1 h0 (by omega) (by omega)).symm, rfl⟩ | exact ⟨congrArg gI (anyI_0 (fun j a b => hz j a (by omega))).symm, rfl⟩
      · skip
        refine w_iload_n (pc' := 11) (i := 2) (by rfl) (by rfl) dX1_isMember_10 rfl ?_
        refine w_bipush (pc' := 13) (by decide) (by decide) dX1_isMember_11 rfl ?_
        refine w_icmp_ge (pc' := 16) (t := 34) dX1_isMember_13 rfl rfl (fun c_13 => ?_) (fun c_13 => ?_)
        · skip
          refine w_iconst (pc' := 35) (by decide) dX1_isMember_34 rfl ?_
          refine w_zreturn rfl (.inl rfl) dX1_isMember_35 ?_
          first | (exfalso; omega) | exact ⟨congrArg gI (anyI_1 h0 (by omega) (by omega)).symm, rfl⟩ | exact ⟨congrArg gI (anyI_0 (fun j a b => hz j a (by omega))).symm, rfl⟩
        · skip
          refine w_aload_n (pc' := 17) (i := 0) (by rfl) (by rfl) dX1_isMember_16 rfl ?_
          refine w_getS (pc' := 20) (q := 126) fg_X1_11 kd_125 sf_X1_1 gr_125_1 dX1_isMember_17 rfl ?_
          refine w_iload_n (pc' := 21) (i := 2) (by rfl) (by rfl) dX1_isMember_20 rfl ?_
          refine w_iald (pc' := 22) kd_126 (by omega) (by omega) dX1_isMember_21 rfl ?_
          refine w_iload_n (pc' := 23) (i := 1) (by rfl) (by rfl) dX1_isMember_22 rfl ?_
          refine w_icmp_ne (pc' := 26) (t := 28) dX1_isMember_23 rfl rfl (fun c_23 => ?_) (fun c_23 => ?_)
          · skip
            refine v_iinc (pc' := 31) (x := i) (ls' := [gR 125, gI p, gI (i + 1)]) (by omega) (by decide) (by rfl) (by rfl) dX1_isMember_28 rfl ?_
            refine w_goto (pc' := 2) dX1_isMember_31 rfl ?_
            exact ih_2 _ (by omega) (i + 1) rfl (by omega) (by intro j a b; by_cases e : j = i; rw [e]; omega; exact hz j a (by omega))
          · skip
            refine w_iconst (pc' := 27) (by decide) dX1_isMember_26 rfl ?_
            refine w_zreturn rfl (.inr rfl) dX1_isMember_27 ?_
            first | (exfalso; omega) | exact ⟨congrArg gI (anyI_1 h0 (by omega) (by omega)).symm, rfl⟩ | exact ⟨congrArg gI (anyI_0 (fun j a b => hz j a (by omega))).symm, rfl⟩
  exact hl_2 _ 0 rfl (by omega) (by intro j a b; omega)
theorem q_isMember0 (σ : gH) (hs : σ 133 92 ≤ 12) (p : Int) : Mt mX12_isMember 0 [gR 133, gI p] σ (rE (gI (anyI (fun i => σ 189 i = p) (σ 133 92))) σ) := by
  refine Mt.walk (ls := [gR 133, gI p, gX 1]) pn_X12 rfl (fun _ _ h => by cases h.1) (Nat.le_of_ble_eq_true rfl) rfl ?_
  refine w_iconst (pc' := 1) (by decide) dX12_isMember_0 rfl ?_
  refine w_istore_n (pc' := 2) (i := 2) (ls' := [gR 133, gI p, gI 0]) (by rfl) (by decide) (by rfl) dX12_isMember_1 rfl ?_
  have hl_2 : ∀ (mm : Nat) (i : Int), (σ 133 92 - i).toNat = mm → (0 ≤ i) → (∀ j, 0 ≤ j → j < i → ¬ (σ 189 j = p)) → Wp mX12_isMember 0 (rE (gI (anyI (fun i => σ 189 i = p) (σ 133 92))) σ) σ 2 [gR 133, gI p, gI i] [] := by
    intro m_2
    induction m_2 using Nat.strongRecOn with
    | _ m_2 ih_2 =>
      intro i hmeas_2 h0 hz
      refine w_iload_n (pc' := 3) (i := 2) (by rfl) (by rfl) dX12_isMember_2 rfl ?_
      refine w_aload_n (pc' := 4) (i := 0) (by rfl) (by rfl) dX12_isMember_3 rfl ?_
      refine v_getI (pc' := 7) (ji := 92) rfl fg_X12_543 kd_133 dX12_isMember_4 rfl ?_
      refine w_icmp_ge (pc' := 10) (t := 28) dX12_isMember_7 rfl rfl (fun c_7 => ?_) (fun c_7 => ?_)
      · skip
        refine w_iconst (pc' := 29) (by decide) dX12_isMember_28 rfl ?_
        refine w_zreturn rfl (.inl rfl) dX12_isMember_29 ?_
        first | (exfalso; omega) | exact ⟨congrArg gI (anyI_1 h0 (by omega) (by omega)).symm, rfl⟩ | exact ⟨congrArg gI (anyI_0 (fun j a b => hz j a (by omega))).symm, rfl⟩
      · skip
        refine w_aload_n (pc' := 11) (i := 0) (by rfl) (by rfl) dX12_isMember_10 rfl ?_
        refine w_getS (pc' := 14) (q := 189) fg_X12_187 kd_133 sf_X12_89 gr_133_89 dX12_isMember_11 rfl ?_
        refine w_iload_n (pc' := 15) (i := 2) (by rfl) (by rfl) dX12_isMember_14 rfl ?_
        refine w_iald (pc' := 16) kd_189 (by omega) (by omega) dX12_isMember_15 rfl ?_
        refine w_iload_n (pc' := 17) (i := 1) (by rfl) (by rfl) dX12_isMember_16 rfl ?_
        refine w_icmp_ne (pc' := 20) (t := 22) dX12_isMember_17 rfl rfl (fun c_17 => ?_) (fun c_17 => ?_)
        · skip
          refine v_iinc (pc' := 25) (x := i) (ls' := [gR 133, gI p, gI (i + 1)]) (by omega) (by decide) (by rfl) (by rfl) dX12_isMember_22 rfl ?_
          refine w_goto (pc' := 2) dX12_isMember_25 rfl ?_
          exact ih_2 _ (by omega) (i + 1) rfl (by omega) (by intro j a b; by_cases e : j = i; rw [e]; omega; exact hz j a (by omega))
        · skip
          refine w_iconst (pc' := 21) (by decide) dX12_isMember_20 rfl ?_
          refine w_zreturn rfl (.inr rfl) dX12_isMember_21 ?_
          first | (exfalso; omega) | exact ⟨congrArg gI (anyI_1 h0 (by omega) (by omega)).symm, rfl⟩ | exact ⟨congrArg gI (anyI_0 (fun j a b => hz j a (by omega))).symm, rfl⟩
  exact hl_2 _ 0 rfl (by omega) (by intro j a b; omega)
theorem q_isMember {σ H : gH} (hI : Inv σ) (e1 : H 133 92 = σ 133 92) (e2 : H 189 = σ 189) (p : Int) : Mt mX12_isMember 0 [gR 133, gI p] H (rE (gI (MB σ p)) H) := by
  have hm := hI.f.mem
  have e : anyI (fun i => H 189 i = p) (H 133 92) = MB σ p := by
    rw [e1, e2, hm.1]
    exact anyI_congr fun i a b => by rw [(hm.2.2.2 i a b).1]
  have k := q_isMember0 H (by rw [e1, hm.1]; exact hm.2.2.1) p
  rw [e] at k
  exact k
theorem k_addMemberT (σ : gH) (hms : 0 ≤ σ 125 2 ∧ σ 125 2 ≤ 12) (p : Int) (hP : MB σ p = 0 ∧ σ 125 2 < 12) : Mt mX1_addMember 1 [gR 125, gI p] σ (rE (gI (σ 125 2 + 1)) (gUp (gUp σ 126 (σ 125 2) p) 125 2 (σ 125 2 + 1))) := by
  refine Mt.walk (ls := [gR 125, gI p]) pn_X1 rfl (fun _ _ h => by cases h.1) (Nat.le_of_ble_eq_true rfl) rfl ?_
  refine w_aload_n (pc' := 1) (i := 0) (by rfl) (by rfl) dX1_addMember_0 rfl ?_
  refine w_iload_n (pc' := 2) (i := 1) (by rfl) (by rfl) dX1_addMember_1 rfl ?_
  refine v_callVE (pc' := 5) (st' := [gI (MB σ p)]) (d' := 0) (av := [gI p]) mi_mX1_isMember lk_X1_48 rfl ci_X1 kd_125 rfl (Nat.le_of_ble_eq_true rfl) (Nat.le_of_ble_eq_true rfl) dX1_addMember_2 rfl rfl (k_isMember σ (show σ 125 2 ≤ 12 by omega) p) ?_
  refine w_if_ne (pc' := 8) (t := 24) dX1_addMember_5 rfl rfl (fun c_5 => ?_) (fun c_5 => ?_)
  · skip
    refine w_iconst (pc' := 25) (by decide) dX1_addMember_24 rfl ?_
    refine v_ireturn rfl dX1_addMember_25 ?_
    first | (exfalso; omega) | exact ⟨by first | rfl | exact congrArg gI (by omega), rfl⟩
  · skip
    refine w_aload_n (pc' := 9) (i := 0) (by rfl) (by rfl) dX1_addMember_8 rfl ?_
    refine v_getI (pc' := 12) (ji := 2) rfl fg_X1_38 kd_125 dX1_addMember_9 rfl ?_
    refine w_if_lt (pc' := 15) (t := 24) dX1_addMember_12 rfl rfl (fun c_12 => ?_) (fun c_12 => ?_)
    · skip
      refine w_iconst (pc' := 25) (by decide) dX1_addMember_24 rfl ?_
      refine v_ireturn rfl dX1_addMember_25 ?_
      first | (exfalso; omega) | exact ⟨by first | rfl | exact congrArg gI (by omega), rfl⟩
    · skip
      refine w_aload_n (pc' := 16) (i := 0) (by rfl) (by rfl) dX1_addMember_15 rfl ?_
      refine v_getI (pc' := 19) (ji := 2) rfl fg_X1_38 kd_125 dX1_addMember_16 rfl ?_
      refine w_bipush (pc' := 21) (by decide) (by decide) dX1_addMember_19 rfl ?_
      refine w_icmp_lt (pc' := 24) (t := 26) dX1_addMember_21 rfl rfl (fun c_21 => ?_) (fun c_21 => ?_)
      · skip
        refine w_aload_n (pc' := 27) (i := 0) (by rfl) (by rfl) dX1_addMember_26 rfl ?_
        refine w_getS (pc' := 30) (q := 126) fg_X1_11 kd_125 sf_X1_1 gr_125_1 dX1_addMember_27 rfl ?_
        refine w_aload_n (pc' := 31) (i := 0) (by rfl) (by rfl) dX1_addMember_30 rfl ?_
        refine v_getI (pc' := 34) (ji := 2) rfl fg_X1_38 kd_125 dX1_addMember_31 rfl ?_
        refine w_iload_n (pc' := 35) (i := 1) (by rfl) (by rfl) dX1_addMember_34 rfl ?_
        refine w_iast (pc' := 36) kd_126 (by omega) (by omega) dX1_addMember_35 rfl ?_
        refine w_aload_n (pc' := 37) (i := 0) (by rfl) (by rfl) dX1_addMember_36 rfl ?_
        refine w_dup (pc' := 38) dX1_addMember_37 rfl ?_
        refine v_getI (pc' := 41) (ji := 2) rfl fg_X1_38 kd_125 dX1_addMember_38 rfl ?_
        show Wp _ _ _ _ _ _ [gI (σ 125 2), gR 125]
        refine w_iconst (pc' := 42) (by decide) dX1_addMember_41 rfl ?_
        refine v_iadd (pc' := 43) (by omega) dX1_addMember_42 rfl ?_
        refine v_putI (pc' := 46) (ji := 2) rfl fp_X1_38 kd_125 sf_X1_2 dX1_addMember_43 rfl ?_
        refine w_aload_n (pc' := 47) (i := 0) (by rfl) (by rfl) dX1_addMember_46 rfl ?_
        refine v_getI (pc' := 50) (ji := 2) rfl fg_X1_38 kd_125 dX1_addMember_47 rfl ?_
        show Wp _ _ _ _ _ _ [gI ((σ 125 2) + 1)]
        refine v_ireturn rfl dX1_addMember_50 ?_
        first | (exfalso; omega) | exact ⟨by first | rfl | exact congrArg gI (by omega), rfl⟩
      · skip
        refine w_iconst (pc' := 25) (by decide) dX1_addMember_24 rfl ?_
        refine v_ireturn rfl dX1_addMember_25 ?_
        first | (exfalso; omega) | exact ⟨by first | rfl | exact congrArg gI (by omega), rfl⟩
theorem k_addMemberF (σ : gH) (hms : 0 ≤ σ 125 2 ∧ σ 125 2 ≤ 12) (p : Int) (hP : ¬ (MB σ p = 0 ∧ σ 125 2 < 12)) : Mt mX1_addMember 1 [gR 125, gI p] σ (rE (gI ((-1))) σ) := by
  refine Mt.walk (ls := [gR 125, gI p]) pn_X1 rfl (fun _ _ h => by cases h.1) (Nat.le_of_ble_eq_true rfl) rfl ?_
  refine w_aload_n (pc' := 1) (i := 0) (by rfl) (by rfl) dX1_addMember_0 rfl ?_
  refine w_iload_n (pc' := 2) (i := 1) (by rfl) (by rfl) dX1_addMember_1 rfl ?_
  refine v_callVE (pc' := 5) (st' := [gI (MB σ p)]) (d' := 0) (av := [gI p]) mi_mX1_isMember lk_X1_48 rfl ci_X1 kd_125 rfl (Nat.le_of_ble_eq_true rfl) (Nat.le_of_ble_eq_true rfl) dX1_addMember_2 rfl rfl (k_isMember σ (show σ 125 2 ≤ 12 by omega) p) ?_
  refine w_if_ne (pc' := 8) (t := 24) dX1_addMember_5 rfl rfl (fun c_5 => ?_) (fun c_5 => ?_)
  · skip
    refine w_iconst (pc' := 25) (by decide) dX1_addMember_24 rfl ?_
    refine v_ireturn rfl dX1_addMember_25 ?_
    first | (exfalso; omega) | exact ⟨rfl, rfl⟩
  · skip
    refine w_aload_n (pc' := 9) (i := 0) (by rfl) (by rfl) dX1_addMember_8 rfl ?_
    refine v_getI (pc' := 12) (ji := 2) rfl fg_X1_38 kd_125 dX1_addMember_9 rfl ?_
    refine w_if_lt (pc' := 15) (t := 24) dX1_addMember_12 rfl rfl (fun c_12 => ?_) (fun c_12 => ?_)
    · skip
      refine w_iconst (pc' := 25) (by decide) dX1_addMember_24 rfl ?_
      refine v_ireturn rfl dX1_addMember_25 ?_
      first | (exfalso; omega) | exact ⟨rfl, rfl⟩
    · skip
      refine w_aload_n (pc' := 16) (i := 0) (by rfl) (by rfl) dX1_addMember_15 rfl ?_
      refine v_getI (pc' := 19) (ji := 2) rfl fg_X1_38 kd_125 dX1_addMember_16 rfl ?_
      refine w_bipush (pc' := 21) (by decide) (by decide) dX1_addMember_19 rfl ?_
      refine w_icmp_lt (pc' := 24) (t := 26) dX1_addMember_21 rfl rfl (fun c_21 => ?_) (fun c_21 => ?_)
      · skip
        refine w_aload_n (pc' := 27) (i := 0) (by rfl) (by rfl) dX1_addMember_26 rfl ?_
        refine w_getS (pc' := 30) (q := 126) fg_X1_11 kd_125 sf_X1_1 gr_125_1 dX1_addMember_27 rfl ?_
        refine w_aload_n (pc' := 31) (i := 0) (by rfl) (by rfl) dX1_addMember_30 rfl ?_
        refine v_getI (pc' := 34) (ji := 2) rfl fg_X1_38 kd_125 dX1_addMember_31 rfl ?_
        refine w_iload_n (pc' := 35) (i := 1) (by rfl) (by rfl) dX1_addMember_34 rfl ?_
        refine w_iast (pc' := 36) kd_126 (by omega) (by omega) dX1_addMember_35 rfl ?_
        refine w_aload_n (pc' := 37) (i := 0) (by rfl) (by rfl) dX1_addMember_36 rfl ?_
        refine w_dup (pc' := 38) dX1_addMember_37 rfl ?_
        refine v_getI (pc' := 41) (ji := 2) rfl fg_X1_38 kd_125 dX1_addMember_38 rfl ?_
        show Wp _ _ _ _ _ _ [gI (σ 125 2), gR 125]
        refine w_iconst (pc' := 42) (by decide) dX1_addMember_41 rfl ?_
        refine v_iadd (pc' := 43) (by omega) dX1_addMember_42 rfl ?_
        refine v_putI (pc' := 46) (ji := 2) rfl fp_X1_38 kd_125 sf_X1_2 dX1_addMember_43 rfl ?_
        refine w_aload_n (pc' := 47) (i := 0) (by rfl) (by rfl) dX1_addMember_46 rfl ?_
        refine v_getI (pc' := 50) (ji := 2) rfl fg_X1_38 kd_125 dX1_addMember_47 rfl ?_
        show Wp _ _ _ _ _ _ [gI ((σ 125 2) + 1)]
        refine v_ireturn rfl dX1_addMember_50 ?_
        first | (exfalso; omega) | exact ⟨rfl, rfl⟩
      · skip
        refine w_iconst (pc' := 25) (by decide) dX1_addMember_24 rfl ?_
        refine v_ireturn rfl dX1_addMember_25 ?_
        first | (exfalso; omega) | exact ⟨rfl, rfl⟩
theorem x_member {σ : gH} (hI : Inv σ) (p : Int)  : Mt mX11_member 30 [gR 0, gI p] σ (fun v σ' => ((((0 ≤ p ∧ p < σ 3 2) ∧ σ 4 p = 0) ∧ MB σ p = 0 ∧ σ 125 2 < 12) ∧ v = gI (σ 125 2 + 1) ∧ σ' = gUp (gUp σ 126 (σ 125 2) p) 125 2 (σ 125 2 + 1)) ∨ (¬ (((0 ≤ p ∧ p < σ 3 2) ∧ σ 4 p = 0) ∧ MB σ p = 0 ∧ σ 125 2 < 12) ∧ v = gI (-1) ∧ σ' = σ)) := by
  refine Mt.walk (ls := [gR 0, gI p]) pn_X11 rfl (fun _ _ h => by rcases h with h | h <;> exact absurd h.2.1 (by intro h; cases h)) (Nat.le_of_ble_eq_true rfl) rfl ?_
  have hday := hI.f.day
  unfold S_day at hday
  have hp := hI.f.hp
  have hp0 := hI.f.party.2.1
  have hT := hI.f.tape.2.1
  have hT2 := hI.f.tape.2.2.1
  have f6 := hI.f6
  have hm0 := hI.f.mem.2.1
  have hm1 := hI.f.mem.2.2.1
  have ht0 := hI.f.mat.2.1
  have ht1 := hI.f.mat.2.2.1
  have hv0 := hI.f.vote.2.1
  have hv1 := hI.f.vote.2.2.1
  have he0 := hI.f.ent.2.1
  have he1 := hI.f.ent.2.2.1
  have hmb := MB_01 σ p
  have e135p : 0 ≤ p → p < σ 3 2 → σ 135 p = σ 4 p := fun h0 h1 => hI.e135 h0 h1
  have s135p : 0 ≤ p → p < σ 3 2 → 0 ≤ σ 4 p := fun h0 h1 => (hI.f.party.2.2.2 p h0 h1).2.1
  refine w_aload_n (pc' := 1) (i := 0) (by rfl) (by rfl) dX11_member_0 rfl ?_
  refine w_getS (pc' := 4) (q := 3) fg_X11_21 kd_0 sf_X11_5 gr_0_5 dX11_member_1 rfl ?_
  refine w_iload_n (pc' := 5) (i := 1) (by rfl) (by rfl) dX11_member_4 rfl ?_
  refine v_callVE (pc' := 8) (st' := [gI (gb ((0 ≤ p ∧ p < (σ 3 2)) ∧ (σ 4 p) = 0))]) (d' := 1) (av := [gI p]) mi_mX8_isPerson lk_X11_132 rfl ci_X8 kd_3 rfl (Nat.le_of_ble_eq_true rfl) (Nat.le_of_ble_eq_true rfl) dX11_member_5 rfl rfl (pa_isPerson σ (by first | exact hp | omega) p) ?_
  refine v_if_eqB (pc' := 11) (t := 22) dX11_member_8 rfl rfl (fun c_8 => ?_) (fun c_8 => ?_)
  · skip
    refine w_iconst (pc' := 23) (by decide) dX11_member_22 rfl ?_
    refine v_ireturn rfl dX11_member_23 ?_
    first
      | (exfalso; omega)
      | exact .inl ⟨by omega, (by first | rfl | exact congrArg gI (by omega) | exact congrArg gI (gb_t (by omega)) | exact congrArg gI (gb_f (by omega)) | (refine congrArg gI ?_; (repeat' split) <;> omega)), rfl⟩
      | exact .inr ⟨by omega, (by first | rfl | exact congrArg gI (by omega) | exact congrArg gI (gb_t (by omega)) | exact congrArg gI (gb_f (by omega)) | (refine congrArg gI ?_; (repeat' split) <;> omega)), rfl⟩
  · skip
    refine w_aload_n (pc' := 12) (i := 0) (by rfl) (by rfl) dX11_member_11 rfl ?_
    refine w_getS (pc' := 15) (q := 125) fg_X11_85 kd_0 sf_X11_13 gr_0_13 dX11_member_12 rfl ?_
    refine w_iload_n (pc' := 16) (i := 1) (by rfl) (by rfl) dX11_member_15 rfl ?_
    by_cases c_16 : MB σ p = 0 ∧ σ 125 2 < 12
    · skip
      refine v_callVE (pc' := 19) (st' := [gI (σ 125 2 + 1)]) (d' := 1) (av := [gI p]) mi_mX1_addMember lk_X11_220 rfl ci_X1 kd_125 rfl (Nat.le_of_ble_eq_true rfl) (Nat.le_of_ble_eq_true rfl) dX11_member_16 rfl rfl (k_addMemberT σ ⟨by omega, by omega⟩ p c_16) ?_
      show Wp _ _ _ (gUp (gUp σ 126 (σ 125 2) p) 125 2 (σ 125 2 + 1)) _ _ [gI (σ 125 2 + 1)]
      refine w_goto (pc' := 23) dX11_member_19 rfl ?_
      refine v_ireturn rfl dX11_member_23 ?_
      first
        | (exfalso; omega)
        | exact .inl ⟨by omega, (by first | rfl | exact congrArg gI (by omega) | exact congrArg gI (gb_t (by omega)) | exact congrArg gI (gb_f (by omega)) | (refine congrArg gI ?_; (repeat' split) <;> omega)), rfl⟩
        | exact .inr ⟨by omega, (by first | rfl | exact congrArg gI (by omega) | exact congrArg gI (gb_t (by omega)) | exact congrArg gI (gb_f (by omega)) | (refine congrArg gI ?_; (repeat' split) <;> omega)), rfl⟩
    · skip
      refine v_callVE (pc' := 19) (st' := [gI (-1)]) (d' := 1) (av := [gI p]) mi_mX1_addMember lk_X11_220 rfl ci_X1 kd_125 rfl (Nat.le_of_ble_eq_true rfl) (Nat.le_of_ble_eq_true rfl) dX11_member_16 rfl rfl (k_addMemberF σ ⟨by omega, by omega⟩ p c_16) ?_
      show Wp _ _ _ σ _ _ [gI (-1)]
      refine w_goto (pc' := 23) dX11_member_19 rfl ?_
      refine v_ireturn rfl dX11_member_23 ?_
      first
        | (exfalso; omega)
        | exact .inl ⟨by omega, (by first | rfl | exact congrArg gI (by omega) | exact congrArg gI (gb_t (by omega)) | exact congrArg gI (gb_f (by omega)) | (refine congrArg gI ?_; (repeat' split) <;> omega)), rfl⟩
        | exact .inr ⟨by omega, (by first | rfl | exact congrArg gI (by omega) | exact congrArg gI (gb_t (by omega)) | exact congrArg gI (gb_f (by omega)) | (refine congrArg gI ?_; (repeat' split) <;> omega)), rfl⟩
theorem m_memberT {σ : gH} (hI : Inv σ) (p : Int)  (hP : ((0 ≤ p ∧ p < σ 3 2) ∧ σ 4 p = 0) ∧ MB σ p = 0 ∧ σ 125 2 < 12) : Mt mX12_member 30 [gR 133, gI p] (gUp (gUp σ 126 (σ 125 2) p) 125 2 (σ 125 2 + 1)) (rE (gI (σ 125 2 + 1)) (gUp (gUp (gUp (gUp (gUp σ 126 (σ 125 2) p) 125 2 (σ 125 2 + 1)) 133 0 0) 189 (σ 125 2) p) 133 92 ((σ 125 2) + 1))) := by
  refine Mt.walk (ls := [gR 133, gI p]) pn_X12 rfl (fun _ _ h => by cases h.1) (Nat.le_of_ble_eq_true rfl) rfl ?_
  have hday := hI.f.day
  unfold S_day at hday
  have hp := hI.f.hp
  have hp0 := hI.f.party.2.1
  have hT := hI.f.tape.2.1
  have hT2 := hI.f.tape.2.2.1
  have f6 := hI.f6
  have hm0 := hI.f.mem.2.1
  have hm1 := hI.f.mem.2.2.1
  have ht0 := hI.f.mat.2.1
  have ht1 := hI.f.mat.2.2.1
  have hv0 := hI.f.vote.2.1
  have hv1 := hI.f.vote.2.2.1
  have he0 := hI.f.ent.2.1
  have he1 := hI.f.ent.2.2.1
  have hmb := MB_01 σ p
  have e135p : 0 ≤ p → p < σ 3 2 → σ 135 p = σ 4 p := fun h0 h1 => hI.e135 h0 h1
  have s135p : 0 ≤ p → p < σ 3 2 → 0 ≤ σ 4 p := fun h0 h1 => (hI.f.party.2.2.2 p h0 h1).2.1
  refine w_aload_n (pc' := 1) (i := 0) (by rfl) (by rfl) dX12_member_0 rfl ?_
  refine w_iconst (pc' := 2) (by decide) dX12_member_1 rfl ?_
  refine v_putI (pc' := 5) (ji := 0) rfl fp_X12_244 kd_133 sf_X12_0 dX12_member_2 rfl ?_
  refine w_aload_n (pc' := 6) (i := 0) (by rfl) (by rfl) dX12_member_5 rfl ?_
  refine w_iload_n (pc' := 7) (i := 1) (by rfl) (by rfl) dX12_member_6 rfl ?_
  refine v_callVE (pc' := 10) (st' := [gI (gb ((0 ≤ p ∧ p < (σ 133 6)) ∧ (σ 135 p) = 0))]) (d' := 1) (av := [gI p]) mi_mX12_isPerson lk_X12_299 rfl ci_X12 kd_133 rfl (Nat.le_of_ble_eq_true rfl) (Nat.le_of_ble_eq_true rfl) dX12_member_7 rfl rfl (mo_isPerson (gUp (gUp (gUp σ 126 (σ 125 2) p) 125 2 (σ 125 2 + 1)) 133 0 0) (show σ 133 6 ≤ 60 by omega) p) ?_
  refine v_if_eqB (pc' := 13) (t := 30) dX12_member_10 rfl rfl (fun c_10 => ?_) (fun c_10 => ?_)
  · skip
    refine w_iconst (pc' := 31) (by decide) dX12_member_30 rfl ?_
    refine v_ireturn rfl dX12_member_31 ?_
    first
      | (exfalso; omega)
      | exact ⟨(by first | rfl | exact congrArg gI (by omega) | exact congrArg gI (gb_t (by omega)) | exact congrArg gI (gb_f (by omega)) | (refine congrArg gI ?_; (repeat' split) <;> omega)), rfl⟩
  · skip
    refine w_aload_n (pc' := 14) (i := 0) (by rfl) (by rfl) dX12_member_13 rfl ?_
    refine w_iload_n (pc' := 15) (i := 1) (by rfl) (by rfl) dX12_member_14 rfl ?_
    refine v_callVE (pc' := 18) (st' := [gI (MB σ p)]) (d' := 0) (av := [gI p]) mi_mX12_isMember lk_X12_546 rfl ci_X12 kd_133 rfl (Nat.le_of_ble_eq_true rfl) (Nat.le_of_ble_eq_true rfl) dX12_member_15 rfl rfl (q_isMember (H := gUp (gUp (gUp σ 126 (σ 125 2) p) 125 2 (σ 125 2 + 1)) 133 0 0) hI rfl rfl p) ?_
    refine w_if_ne (pc' := 21) (t := 30) dX12_member_18 rfl rfl (fun c_18 => ?_) (fun c_18 => ?_)
    · skip
      refine w_iconst (pc' := 31) (by decide) dX12_member_30 rfl ?_
      refine v_ireturn rfl dX12_member_31 ?_
      first
        | (exfalso; omega)
        | exact ⟨(by first | rfl | exact congrArg gI (by omega) | exact congrArg gI (gb_t (by omega)) | exact congrArg gI (gb_f (by omega)) | (refine congrArg gI ?_; (repeat' split) <;> omega)), rfl⟩
    · skip
      refine w_aload_n (pc' := 22) (i := 0) (by rfl) (by rfl) dX12_member_21 rfl ?_
      refine v_getI (pc' := 25) (ji := 92) rfl fg_X12_543 kd_133 dX12_member_22 rfl ?_
      show Wp _ _ _ _ _ _ [gI (σ 133 92)]
      rw [hI.f92]
      refine w_bipush (pc' := 27) (by decide) (by decide) dX12_member_25 rfl ?_
      refine w_icmp_ne (pc' := 30) (t := 32) dX12_member_27 rfl rfl (fun c_27 => ?_) (fun c_27 => ?_)
      · skip
        refine w_aload_n (pc' := 33) (i := 0) (by rfl) (by rfl) dX12_member_32 rfl ?_
        refine w_getS (pc' := 36) (q := 189) fg_X12_187 kd_133 sf_X12_89 gr_133_89 dX12_member_33 rfl ?_
        refine w_aload_n (pc' := 37) (i := 0) (by rfl) (by rfl) dX12_member_36 rfl ?_
        refine v_getI (pc' := 40) (ji := 92) rfl fg_X12_543 kd_133 dX12_member_37 rfl ?_
        show Wp _ _ _ _ _ _ [gI (σ 133 92), gR 189]
        rw [hI.f92]
        refine w_iload_n (pc' := 41) (i := 1) (by rfl) (by rfl) dX12_member_40 rfl ?_
        refine w_iast (pc' := 42) kd_189 (by omega) (by omega) dX12_member_41 rfl ?_
        refine w_aload_n (pc' := 43) (i := 0) (by rfl) (by rfl) dX12_member_42 rfl ?_
        refine w_dup (pc' := 44) dX12_member_43 rfl ?_
        refine v_getI (pc' := 47) (ji := 92) rfl fg_X12_543 kd_133 dX12_member_44 rfl ?_
        show Wp _ _ _ _ _ _ [gI (σ 133 92), gR 133]
        rw [hI.f92]
        refine w_iconst (pc' := 48) (by decide) dX12_member_47 rfl ?_
        refine v_iadd (pc' := 49) (by omega) dX12_member_48 rfl ?_
        refine v_putI (pc' := 52) (ji := 92) rfl fp_X12_543 kd_133 sf_X12_92 dX12_member_49 rfl ?_
        refine w_aload_n (pc' := 53) (i := 0) (by rfl) (by rfl) dX12_member_52 rfl ?_
        refine v_getI (pc' := 56) (ji := 92) rfl fg_X12_543 kd_133 dX12_member_53 rfl ?_
        show Wp _ _ _ _ _ _ [gI ((σ 125 2) + 1)]
        refine v_ireturn rfl dX12_member_56 ?_
        first
          | (exfalso; omega)
          | exact ⟨(by first | rfl | exact congrArg gI (by omega) | exact congrArg gI (gb_t (by omega)) | exact congrArg gI (gb_f (by omega)) | (refine congrArg gI ?_; (repeat' split) <;> omega)), rfl⟩
      · skip
        refine w_iconst (pc' := 31) (by decide) dX12_member_30 rfl ?_
        refine v_ireturn rfl dX12_member_31 ?_
        first
          | (exfalso; omega)
          | exact ⟨(by first | rfl | exact congrArg gI (by omega) | exact congrArg gI (gb_t (by omega)) | exact congrArg gI (gb_f (by omega)) | (refine congrArg gI ?_; (repeat' split) <;> omega)), rfl⟩
theorem m_memberF {σ : gH} (hI : Inv σ) (p : Int)  (hP : ¬ (((0 ≤ p ∧ p < σ 3 2) ∧ σ 4 p = 0) ∧ MB σ p = 0 ∧ σ 125 2 < 12)) : Mt mX12_member 30 [gR 133, gI p] σ (rE (gI (-1)) (gUp σ 133 0 0)) := by
  refine Mt.walk (ls := [gR 133, gI p]) pn_X12 rfl (fun _ _ h => by cases h.1) (Nat.le_of_ble_eq_true rfl) rfl ?_
  have hday := hI.f.day
  unfold S_day at hday
  have hp := hI.f.hp
  have hp0 := hI.f.party.2.1
  have hT := hI.f.tape.2.1
  have hT2 := hI.f.tape.2.2.1
  have f6 := hI.f6
  have hm0 := hI.f.mem.2.1
  have hm1 := hI.f.mem.2.2.1
  have ht0 := hI.f.mat.2.1
  have ht1 := hI.f.mat.2.2.1
  have hv0 := hI.f.vote.2.1
  have hv1 := hI.f.vote.2.2.1
  have he0 := hI.f.ent.2.1
  have he1 := hI.f.ent.2.2.1
  have hmb := MB_01 σ p
  have e135p : 0 ≤ p → p < σ 3 2 → σ 135 p = σ 4 p := fun h0 h1 => hI.e135 h0 h1
  have s135p : 0 ≤ p → p < σ 3 2 → 0 ≤ σ 4 p := fun h0 h1 => (hI.f.party.2.2.2 p h0 h1).2.1
  refine w_aload_n (pc' := 1) (i := 0) (by rfl) (by rfl) dX12_member_0 rfl ?_
  refine w_iconst (pc' := 2) (by decide) dX12_member_1 rfl ?_
  refine v_putI (pc' := 5) (ji := 0) rfl fp_X12_244 kd_133 sf_X12_0 dX12_member_2 rfl ?_
  refine w_aload_n (pc' := 6) (i := 0) (by rfl) (by rfl) dX12_member_5 rfl ?_
  refine w_iload_n (pc' := 7) (i := 1) (by rfl) (by rfl) dX12_member_6 rfl ?_
  refine v_callVE (pc' := 10) (st' := [gI (gb ((0 ≤ p ∧ p < (σ 133 6)) ∧ (σ 135 p) = 0))]) (d' := 1) (av := [gI p]) mi_mX12_isPerson lk_X12_299 rfl ci_X12 kd_133 rfl (Nat.le_of_ble_eq_true rfl) (Nat.le_of_ble_eq_true rfl) dX12_member_7 rfl rfl (mo_isPerson (gUp σ 133 0 0) (show σ 133 6 ≤ 60 by omega) p) ?_
  refine v_if_eqB (pc' := 13) (t := 30) dX12_member_10 rfl rfl (fun c_10 => ?_) (fun c_10 => ?_)
  · skip
    refine w_iconst (pc' := 31) (by decide) dX12_member_30 rfl ?_
    refine v_ireturn rfl dX12_member_31 ?_
    first
      | (exfalso; omega)
      | exact ⟨(by first | rfl | exact congrArg gI (by omega) | exact congrArg gI (gb_t (by omega)) | exact congrArg gI (gb_f (by omega)) | (refine congrArg gI ?_; (repeat' split) <;> omega)), rfl⟩
  · skip
    refine w_aload_n (pc' := 14) (i := 0) (by rfl) (by rfl) dX12_member_13 rfl ?_
    refine w_iload_n (pc' := 15) (i := 1) (by rfl) (by rfl) dX12_member_14 rfl ?_
    refine v_callVE (pc' := 18) (st' := [gI (MB σ p)]) (d' := 0) (av := [gI p]) mi_mX12_isMember lk_X12_546 rfl ci_X12 kd_133 rfl (Nat.le_of_ble_eq_true rfl) (Nat.le_of_ble_eq_true rfl) dX12_member_15 rfl rfl (q_isMember (H := gUp σ 133 0 0) hI rfl rfl p) ?_
    refine w_if_ne (pc' := 21) (t := 30) dX12_member_18 rfl rfl (fun c_18 => ?_) (fun c_18 => ?_)
    · skip
      refine w_iconst (pc' := 31) (by decide) dX12_member_30 rfl ?_
      refine v_ireturn rfl dX12_member_31 ?_
      first
        | (exfalso; omega)
        | exact ⟨(by first | rfl | exact congrArg gI (by omega) | exact congrArg gI (gb_t (by omega)) | exact congrArg gI (gb_f (by omega)) | (refine congrArg gI ?_; (repeat' split) <;> omega)), rfl⟩
    · skip
      refine w_aload_n (pc' := 22) (i := 0) (by rfl) (by rfl) dX12_member_21 rfl ?_
      refine v_getI (pc' := 25) (ji := 92) rfl fg_X12_543 kd_133 dX12_member_22 rfl ?_
      show Wp _ _ _ _ _ _ [gI (σ 133 92)]
      rw [hI.f92]
      refine w_bipush (pc' := 27) (by decide) (by decide) dX12_member_25 rfl ?_
      refine w_icmp_ne (pc' := 30) (t := 32) dX12_member_27 rfl rfl (fun c_27 => ?_) (fun c_27 => ?_)
      · skip
        refine w_aload_n (pc' := 33) (i := 0) (by rfl) (by rfl) dX12_member_32 rfl ?_
        refine w_getS (pc' := 36) (q := 189) fg_X12_187 kd_133 sf_X12_89 gr_133_89 dX12_member_33 rfl ?_
        refine w_aload_n (pc' := 37) (i := 0) (by rfl) (by rfl) dX12_member_36 rfl ?_
        refine v_getI (pc' := 40) (ji := 92) rfl fg_X12_543 kd_133 dX12_member_37 rfl ?_
        show Wp _ _ _ _ _ _ [gI (σ 133 92), gR 189]
        rw [hI.f92]
        refine w_iload_n (pc' := 41) (i := 1) (by rfl) (by rfl) dX12_member_40 rfl ?_
        refine w_iast (pc' := 42) kd_189 (by omega) (by omega) dX12_member_41 rfl ?_
        refine w_aload_n (pc' := 43) (i := 0) (by rfl) (by rfl) dX12_member_42 rfl ?_
        refine w_dup (pc' := 44) dX12_member_43 rfl ?_
        refine v_getI (pc' := 47) (ji := 92) rfl fg_X12_543 kd_133 dX12_member_44 rfl ?_
        show Wp _ _ _ _ _ _ [gI (σ 133 92), gR 133]
        rw [hI.f92]
        refine w_iconst (pc' := 48) (by decide) dX12_member_47 rfl ?_
        refine v_iadd (pc' := 49) (by omega) dX12_member_48 rfl ?_
        refine v_putI (pc' := 52) (ji := 92) rfl fp_X12_543 kd_133 sf_X12_92 dX12_member_49 rfl ?_
        refine w_aload_n (pc' := 53) (i := 0) (by rfl) (by rfl) dX12_member_52 rfl ?_
        refine v_getI (pc' := 56) (ji := 92) rfl fg_X12_543 kd_133 dX12_member_53 rfl ?_
        show Wp _ _ _ _ _ _ [gI ((σ 125 2) + 1)]
        refine v_ireturn rfl dX12_member_56 ?_
        first
          | (exfalso; omega)
          | exact ⟨(by first | rfl | exact congrArg gI (by omega) | exact congrArg gI (gb_t (by omega)) | exact congrArg gI (gb_f (by omega)) | (refine congrArg gI ?_; (repeat' split) <;> omega)), rfl⟩
      · skip
        refine w_iconst (pc' := 31) (by decide) dX12_member_30 rfl ?_
        refine v_ireturn rfl dX12_member_31 ?_
        first
          | (exfalso; omega)
          | exact ⟨(by first | rfl | exact congrArg gI (by omega) | exact congrArg gI (gb_t (by omega)) | exact congrArg gI (gb_f (by omega)) | (refine congrArg gI ?_; (repeat' split) <;> omega)), rfl⟩
theorem i_member {σ : gH} (hI : Inv σ) (p : Int)  (hP : ((0 ≤ p ∧ p < σ 3 2) ∧ σ 4 p = 0) ∧ MB σ p = 0 ∧ σ 125 2 < 12) : Inv (gUp (gUp (gUp (gUp (gUp σ 126 (σ 125 2) p) 125 2 (σ 125 2 + 1)) 133 0 0) 189 (σ 125 2) p) 133 92 ((σ 125 2) + 1)) := by
  refine ⟨⟨⟨hI.f.day, hI.f.tape, hI.f.outs, hI.f.party, hI.f.own, hI.f.kin, hI.f.post, hI.f.gift, hI.f.worth, ?_, hI.f.mat, hI.f.vote, hI.f.ent⟩, hI.law, hI.ord⟩, hI.2.1, hI.mod⟩
  have hS := hI.f.mem
  refine ⟨?_, ?_, ?_, fun i h0 h1 => ?_⟩
  · exact rfl
  · show 0 ≤ σ 125 2 + 1
    have := hS.2.1
    omega
  · show σ 125 2 + 1 ≤ 12
    omega
  · have h2 : i < σ 125 2 + 1 := h1
    show (if i = σ 125 2 then p else σ 189 i) = (if i = σ 125 2 then p else σ 126 i) ∧ isPe σ ((if i = σ 125 2 then p else σ 126 i))
    by_cases hi : i = σ 125 2
    · simp only [if_pos hi]
      exact ⟨trivial, hP.1⟩
    · simp only [if_neg hi]
      exact hS.2.2.2 i h0 (by omega)
theorem ci_member (p : Int)  : CI Inv mX11_member mX12_member [gI p] := CI_reg (fun σ => ((0 ≤ p ∧ p < σ 3 2) ∧ σ 4 p = 0) ∧ MB σ p = 0 ∧ σ 125 2 < 12) (fun σ => σ 125 2 + 1) (fun σ => -1) (fun σ => gUp (gUp σ 126 (σ 125 2) p) 125 2 (σ 125 2 + 1)) (fun σ => σ) (fun σ => gUp (gUp (gUp (gUp (gUp σ 126 (σ 125 2) p) 125 2 (σ 125 2 + 1)) 133 0 0) 189 (σ 125 2) p) 133 92 ((σ 125 2) + 1)) (fun σ => gUp σ 133 0 0) (fun σ hI => x_member hI p ) (fun σ hI hP => m_memberT hI p  hP) (fun σ hI hP => m_memberF hI p  hP) (fun σ hI hP => i_member hI p  hP) (fun σ hI _ => hI.thrown)
theorem k_addMatterT (σ : gH)  (f d : Int) (hP : 0 ≤ σ 125 5 ∧ σ 125 5 < 60) : Mt mX1_addMatter 0 [gR 125, gI f, gI d] σ (rE (gI (σ 125 5)) (gUp (gUp (gUp σ 127 (σ 125 5) f) 128 (σ 125 5) d) 125 5 (σ 125 5 + 1))) := by
  refine Mt.walk (ls := [gR 125, gI f, gI d]) pn_X1 rfl (fun _ _ h => by cases h.1) (Nat.le_of_ble_eq_true rfl) rfl ?_
  refine w_aload_n (pc' := 1) (i := 0) (by rfl) (by rfl) dX1_addMatter_0 rfl ?_
  refine v_getI (pc' := 4) (ji := 5) rfl fg_X1_42 kd_125 dX1_addMatter_1 rfl ?_
  refine w_if_lt (pc' := 7) (t := 16) dX1_addMatter_4 rfl rfl (fun c_4 => ?_) (fun c_4 => ?_)
  · skip
    refine w_iconst (pc' := 17) (by decide) dX1_addMatter_16 rfl ?_
    refine v_ireturn rfl dX1_addMatter_17 ?_
    first | (exfalso; omega) | exact ⟨by first | rfl | exact congrArg gI (by omega), rfl⟩
  · skip
    refine w_aload_n (pc' := 8) (i := 0) (by rfl) (by rfl) dX1_addMatter_7 rfl ?_
    refine v_getI (pc' := 11) (ji := 5) rfl fg_X1_42 kd_125 dX1_addMatter_8 rfl ?_
    refine w_bipush (pc' := 13) (by decide) (by decide) dX1_addMatter_11 rfl ?_
    refine w_icmp_lt (pc' := 16) (t := 18) dX1_addMatter_13 rfl rfl (fun c_13 => ?_) (fun c_13 => ?_)
    · skip
      refine w_aload_n (pc' := 19) (i := 0) (by rfl) (by rfl) dX1_addMatter_18 rfl ?_
      refine w_getS (pc' := 22) (q := 127) fg_X1_15 kd_125 sf_X1_3 gr_125_3 dX1_addMatter_19 rfl ?_
      refine w_aload_n (pc' := 23) (i := 0) (by rfl) (by rfl) dX1_addMatter_22 rfl ?_
      refine v_getI (pc' := 26) (ji := 5) rfl fg_X1_42 kd_125 dX1_addMatter_23 rfl ?_
      refine w_iload_n (pc' := 27) (i := 1) (by rfl) (by rfl) dX1_addMatter_26 rfl ?_
      refine w_iast (pc' := 28) kd_127 (by omega) (by omega) dX1_addMatter_27 rfl ?_
      refine w_aload_n (pc' := 29) (i := 0) (by rfl) (by rfl) dX1_addMatter_28 rfl ?_
      refine w_getS (pc' := 32) (q := 128) fg_X1_18 kd_125 sf_X1_4 gr_125_4 dX1_addMatter_29 rfl ?_
      refine w_aload_n (pc' := 33) (i := 0) (by rfl) (by rfl) dX1_addMatter_32 rfl ?_
      refine v_getI (pc' := 36) (ji := 5) rfl fg_X1_42 kd_125 dX1_addMatter_33 rfl ?_
      show Wp _ _ _ _ _ _ [gI (σ 125 5), gR 128]
      refine w_iload_n (pc' := 37) (i := 2) (by rfl) (by rfl) dX1_addMatter_36 rfl ?_
      refine w_iast (pc' := 38) kd_128 (by omega) (by omega) dX1_addMatter_37 rfl ?_
      refine w_aload_n (pc' := 39) (i := 0) (by rfl) (by rfl) dX1_addMatter_38 rfl ?_
      refine w_dup (pc' := 40) dX1_addMatter_39 rfl ?_
      refine v_getI (pc' := 43) (ji := 5) rfl fg_X1_42 kd_125 dX1_addMatter_40 rfl ?_
      show Wp _ _ _ _ _ _ [gI (σ 125 5), gR 125]
      refine w_iconst (pc' := 44) (by decide) dX1_addMatter_43 rfl ?_
      refine v_iadd (pc' := 45) (by omega) dX1_addMatter_44 rfl ?_
      refine v_putI (pc' := 48) (ji := 5) rfl fp_X1_42 kd_125 sf_X1_5 dX1_addMatter_45 rfl ?_
      refine w_aload_n (pc' := 49) (i := 0) (by rfl) (by rfl) dX1_addMatter_48 rfl ?_
      refine v_getI (pc' := 52) (ji := 5) rfl fg_X1_42 kd_125 dX1_addMatter_49 rfl ?_
      show Wp _ _ _ _ _ _ [gI ((σ 125 5) + 1)]
      refine w_iconst (pc' := 53) (by decide) dX1_addMatter_52 rfl ?_
      refine v_isub (pc' := 54) (by omega) dX1_addMatter_53 rfl ?_
      refine v_ireturn rfl dX1_addMatter_54 ?_
      first | (exfalso; omega) | exact ⟨by first | rfl | exact congrArg gI (by omega), rfl⟩
    · skip
      refine w_iconst (pc' := 17) (by decide) dX1_addMatter_16 rfl ?_
      refine v_ireturn rfl dX1_addMatter_17 ?_
      first | (exfalso; omega) | exact ⟨by first | rfl | exact congrArg gI (by omega), rfl⟩
theorem k_addMatterF (σ : gH)  (f d : Int) (hP : ¬ (0 ≤ σ 125 5 ∧ σ 125 5 < 60)) : Mt mX1_addMatter 0 [gR 125, gI f, gI d] σ (rE (gI ((-1))) σ) := by
  refine Mt.walk (ls := [gR 125, gI f, gI d]) pn_X1 rfl (fun _ _ h => by cases h.1) (Nat.le_of_ble_eq_true rfl) rfl ?_
  refine w_aload_n (pc' := 1) (i := 0) (by rfl) (by rfl) dX1_addMatter_0 rfl ?_
  refine v_getI (pc' := 4) (ji := 5) rfl fg_X1_42 kd_125 dX1_addMatter_1 rfl ?_
  refine w_if_lt (pc' := 7) (t := 16) dX1_addMatter_4 rfl rfl (fun c_4 => ?_) (fun c_4 => ?_)
  · skip
    refine w_iconst (pc' := 17) (by decide) dX1_addMatter_16 rfl ?_
    refine v_ireturn rfl dX1_addMatter_17 ?_
    first | (exfalso; omega) | exact ⟨rfl, rfl⟩
  · skip
    refine w_aload_n (pc' := 8) (i := 0) (by rfl) (by rfl) dX1_addMatter_7 rfl ?_
    refine v_getI (pc' := 11) (ji := 5) rfl fg_X1_42 kd_125 dX1_addMatter_8 rfl ?_
    refine w_bipush (pc' := 13) (by decide) (by decide) dX1_addMatter_11 rfl ?_
    refine w_icmp_lt (pc' := 16) (t := 18) dX1_addMatter_13 rfl rfl (fun c_13 => ?_) (fun c_13 => ?_)
    · skip
      refine w_aload_n (pc' := 19) (i := 0) (by rfl) (by rfl) dX1_addMatter_18 rfl ?_
      refine w_getS (pc' := 22) (q := 127) fg_X1_15 kd_125 sf_X1_3 gr_125_3 dX1_addMatter_19 rfl ?_
      refine w_aload_n (pc' := 23) (i := 0) (by rfl) (by rfl) dX1_addMatter_22 rfl ?_
      refine v_getI (pc' := 26) (ji := 5) rfl fg_X1_42 kd_125 dX1_addMatter_23 rfl ?_
      refine w_iload_n (pc' := 27) (i := 1) (by rfl) (by rfl) dX1_addMatter_26 rfl ?_
      refine w_iast (pc' := 28) kd_127 (by omega) (by omega) dX1_addMatter_27 rfl ?_
      refine w_aload_n (pc' := 29) (i := 0) (by rfl) (by rfl) dX1_addMatter_28 rfl ?_
      refine w_getS (pc' := 32) (q := 128) fg_X1_18 kd_125 sf_X1_4 gr_125_4 dX1_addMatter_29 rfl ?_
      refine w_aload_n (pc' := 33) (i := 0) (by rfl) (by rfl) dX1_addMatter_32 rfl ?_
      refine v_getI (pc' := 36) (ji := 5) rfl fg_X1_42 kd_125 dX1_addMatter_33 rfl ?_
      show Wp _ _ _ _ _ _ [gI (σ 125 5), gR 128]
      refine w_iload_n (pc' := 37) (i := 2) (by rfl) (by rfl) dX1_addMatter_36 rfl ?_
      refine w_iast (pc' := 38) kd_128 (by omega) (by omega) dX1_addMatter_37 rfl ?_
      refine w_aload_n (pc' := 39) (i := 0) (by rfl) (by rfl) dX1_addMatter_38 rfl ?_
      refine w_dup (pc' := 40) dX1_addMatter_39 rfl ?_
      refine v_getI (pc' := 43) (ji := 5) rfl fg_X1_42 kd_125 dX1_addMatter_40 rfl ?_
      show Wp _ _ _ _ _ _ [gI (σ 125 5), gR 125]
      refine w_iconst (pc' := 44) (by decide) dX1_addMatter_43 rfl ?_
      refine v_iadd (pc' := 45) (by omega) dX1_addMatter_44 rfl ?_
      refine v_putI (pc' := 48) (ji := 5) rfl fp_X1_42 kd_125 sf_X1_5 dX1_addMatter_45 rfl ?_
      refine w_aload_n (pc' := 49) (i := 0) (by rfl) (by rfl) dX1_addMatter_48 rfl ?_
      refine v_getI (pc' := 52) (ji := 5) rfl fg_X1_42 kd_125 dX1_addMatter_49 rfl ?_
      show Wp _ _ _ _ _ _ [gI ((σ 125 5) + 1)]
      refine w_iconst (pc' := 53) (by decide) dX1_addMatter_52 rfl ?_
      refine v_isub (pc' := 54) (by omega) dX1_addMatter_53 rfl ?_
      refine v_ireturn rfl dX1_addMatter_54 ?_
      first | (exfalso; omega) | exact ⟨rfl, rfl⟩
    · skip
      refine w_iconst (pc' := 17) (by decide) dX1_addMatter_16 rfl ?_
      refine v_ireturn rfl dX1_addMatter_17 ?_
      first | (exfalso; omega) | exact ⟨rfl, rfl⟩
theorem x_matter {σ : gH} (hI : Inv σ) (f d : Int)  : Mt mX11_matter 30 [gR 0, gI f, gI d] σ (fun v σ' => (((0 ≤ f ∧ f < σ 3 2) ∧ (0 ≤ d ∧ d ≤ 9999) ∧ σ 125 5 < 60) ∧ v = gI (σ 125 5) ∧ σ' = gUp (gUp (gUp σ 127 (σ 125 5) f) 128 (σ 125 5) d) 125 5 (σ 125 5 + 1)) ∨ (¬ ((0 ≤ f ∧ f < σ 3 2) ∧ (0 ≤ d ∧ d ≤ 9999) ∧ σ 125 5 < 60) ∧ v = gI (-1) ∧ σ' = σ)) := by
  refine Mt.walk (ls := [gR 0, gI f, gI d]) pn_X11 rfl (fun _ _ h => by rcases h with h | h <;> exact absurd h.2.1 (by intro h; cases h)) (Nat.le_of_ble_eq_true rfl) rfl ?_
  have hday := hI.f.day
  unfold S_day at hday
  have hp := hI.f.hp
  have hp0 := hI.f.party.2.1
  have hT := hI.f.tape.2.1
  have hT2 := hI.f.tape.2.2.1
  have f6 := hI.f6
  have hm0 := hI.f.mem.2.1
  have hm1 := hI.f.mem.2.2.1
  have ht0 := hI.f.mat.2.1
  have ht1 := hI.f.mat.2.2.1
  have hv0 := hI.f.vote.2.1
  have hv1 := hI.f.vote.2.2.1
  have he0 := hI.f.ent.2.1
  have he1 := hI.f.ent.2.2.1
  refine w_aload_n (pc' := 1) (i := 0) (by rfl) (by rfl) dX11_matter_0 rfl ?_
  refine w_getS (pc' := 4) (q := 3) fg_X11_21 kd_0 sf_X11_5 gr_0_5 dX11_matter_1 rfl ?_
  refine w_iload_n (pc' := 5) (i := 1) (by rfl) (by rfl) dX11_matter_4 rfl ?_
  refine v_callVE (pc' := 8) (st' := [gI (gb (0 ≤ f ∧ f < (σ 3 2)))]) (d' := 0) (av := [gI f]) mi_mX8_has lk_X11_111 rfl ci_X8 kd_3 rfl (Nat.le_of_ble_eq_true rfl) (Nat.le_of_ble_eq_true rfl) dX11_matter_5 rfl rfl (pa_has σ (by first | exact hp | omega) f) ?_
  refine v_if_eqB (pc' := 11) (t := 30) dX11_matter_8 rfl rfl (fun c_8 => ?_) (fun c_8 => ?_)
  · skip
    refine w_iconst (pc' := 31) (by decide) dX11_matter_30 rfl ?_
    refine v_ireturn rfl dX11_matter_31 ?_
    first
      | (exfalso; omega)
      | exact .inl ⟨by omega, (by first | rfl | exact congrArg gI (by omega) | exact congrArg gI (gb_t (by omega)) | exact congrArg gI (gb_f (by omega)) | (refine congrArg gI ?_; (repeat' split) <;> omega)), rfl⟩
      | exact .inr ⟨by omega, (by first | rfl | exact congrArg gI (by omega) | exact congrArg gI (gb_t (by omega)) | exact congrArg gI (gb_f (by omega)) | (refine congrArg gI ?_; (repeat' split) <;> omega)), rfl⟩
  · skip
    refine w_iload_n (pc' := 12) (i := 2) (by rfl) (by rfl) dX11_matter_11 rfl ?_
    refine v_callSE (pc' := 15) (st' := [gI (gb (0 ≤ d ∧ d ≤ 9999))]) (d' := 0) (av := [gI d]) ms_mX11_isDay st_mX11_isDay lk_X11_129 rfl rfl (Nat.le_of_ble_eq_true rfl) (Nat.le_of_ble_eq_true rfl) dX11_matter_12 rfl rfl (cl_isDay σ d) ?_
    refine v_if_eqB (pc' := 18) (t := 30) dX11_matter_15 rfl rfl (fun c_15 => ?_) (fun c_15 => ?_)
    · skip
      refine w_iconst (pc' := 31) (by decide) dX11_matter_30 rfl ?_
      refine v_ireturn rfl dX11_matter_31 ?_
      first
        | (exfalso; omega)
        | exact .inl ⟨by omega, (by first | rfl | exact congrArg gI (by omega) | exact congrArg gI (gb_t (by omega)) | exact congrArg gI (gb_f (by omega)) | (refine congrArg gI ?_; (repeat' split) <;> omega)), rfl⟩
        | exact .inr ⟨by omega, (by first | rfl | exact congrArg gI (by omega) | exact congrArg gI (gb_t (by omega)) | exact congrArg gI (gb_f (by omega)) | (refine congrArg gI ?_; (repeat' split) <;> omega)), rfl⟩
    · skip
      refine w_aload_n (pc' := 19) (i := 0) (by rfl) (by rfl) dX11_matter_18 rfl ?_
      refine w_getS (pc' := 22) (q := 125) fg_X11_85 kd_0 sf_X11_13 gr_0_13 dX11_matter_19 rfl ?_
      refine w_iload_n (pc' := 23) (i := 1) (by rfl) (by rfl) dX11_matter_22 rfl ?_
      refine w_iload_n (pc' := 24) (i := 2) (by rfl) (by rfl) dX11_matter_23 rfl ?_
      by_cases c_24 : 0 ≤ σ 125 5 ∧ σ 125 5 < 60
      · skip
        refine v_callVE (pc' := 27) (st' := [gI (σ 125 5)]) (d' := 0) (av := [gI f, gI d]) mi_mX1_addMatter lk_X11_224 rfl ci_X1 kd_125 rfl (Nat.le_of_ble_eq_true rfl) (Nat.le_of_ble_eq_true rfl) dX11_matter_24 rfl rfl (k_addMatterT σ f d c_24) ?_
        show Wp _ _ _ (gUp (gUp (gUp σ 127 (σ 125 5) f) 128 (σ 125 5) d) 125 5 (σ 125 5 + 1)) _ _ [gI (σ 125 5)]
        refine w_goto (pc' := 31) dX11_matter_27 rfl ?_
        refine v_ireturn rfl dX11_matter_31 ?_
        first
          | (exfalso; omega)
          | exact .inl ⟨by omega, (by first | rfl | exact congrArg gI (by omega) | exact congrArg gI (gb_t (by omega)) | exact congrArg gI (gb_f (by omega)) | (refine congrArg gI ?_; (repeat' split) <;> omega)), rfl⟩
          | exact .inr ⟨by omega, (by first | rfl | exact congrArg gI (by omega) | exact congrArg gI (gb_t (by omega)) | exact congrArg gI (gb_f (by omega)) | (refine congrArg gI ?_; (repeat' split) <;> omega)), rfl⟩
      · skip
        refine v_callVE (pc' := 27) (st' := [gI (-1)]) (d' := 0) (av := [gI f, gI d]) mi_mX1_addMatter lk_X11_224 rfl ci_X1 kd_125 rfl (Nat.le_of_ble_eq_true rfl) (Nat.le_of_ble_eq_true rfl) dX11_matter_24 rfl rfl (k_addMatterF σ f d c_24) ?_
        show Wp _ _ _ σ _ _ [gI (-1)]
        refine w_goto (pc' := 31) dX11_matter_27 rfl ?_
        refine v_ireturn rfl dX11_matter_31 ?_
        first
          | (exfalso; omega)
          | exact .inl ⟨by omega, (by first | rfl | exact congrArg gI (by omega) | exact congrArg gI (gb_t (by omega)) | exact congrArg gI (gb_f (by omega)) | (refine congrArg gI ?_; (repeat' split) <;> omega)), rfl⟩
          | exact .inr ⟨by omega, (by first | rfl | exact congrArg gI (by omega) | exact congrArg gI (gb_t (by omega)) | exact congrArg gI (gb_f (by omega)) | (refine congrArg gI ?_; (repeat' split) <;> omega)), rfl⟩
theorem m_matterT {σ : gH} (hI : Inv σ) (f d : Int)  (hP : (0 ≤ f ∧ f < σ 3 2) ∧ (0 ≤ d ∧ d ≤ 9999) ∧ σ 125 5 < 60) : Mt mX12_matter 30 [gR 133, gI f, gI d] (gUp (gUp (gUp σ 127 (σ 125 5) f) 128 (σ 125 5) d) 125 5 (σ 125 5 + 1)) (rE (gI (σ 125 5)) (gUp (gUp (gUp (gUp (gUp (gUp (gUp σ 127 (σ 125 5) f) 128 (σ 125 5) d) 125 5 (σ 125 5 + 1)) 133 0 0) 190 (σ 125 5) f) 191 (σ 125 5) d) 133 93 ((σ 125 5) + 1))) := by
  refine Mt.walk (ls := [gR 133, gI f, gI d]) pn_X12 rfl (fun _ _ h => by cases h.1) (Nat.le_of_ble_eq_true rfl) rfl ?_
  have hday := hI.f.day
  unfold S_day at hday
  have hp := hI.f.hp
  have hp0 := hI.f.party.2.1
  have hT := hI.f.tape.2.1
  have hT2 := hI.f.tape.2.2.1
  have f6 := hI.f6
  have hm0 := hI.f.mem.2.1
  have hm1 := hI.f.mem.2.2.1
  have ht0 := hI.f.mat.2.1
  have ht1 := hI.f.mat.2.2.1
  have hv0 := hI.f.vote.2.1
  have hv1 := hI.f.vote.2.2.1
  have he0 := hI.f.ent.2.1
  have he1 := hI.f.ent.2.2.1
  refine w_aload_n (pc' := 1) (i := 0) (by rfl) (by rfl) dX12_matter_0 rfl ?_
  refine w_iconst (pc' := 2) (by decide) dX12_matter_1 rfl ?_
  refine v_putI (pc' := 5) (ji := 0) rfl fp_X12_244 kd_133 sf_X12_0 dX12_matter_2 rfl ?_
  refine w_aload_n (pc' := 6) (i := 0) (by rfl) (by rfl) dX12_matter_5 rfl ?_
  refine v_getI (pc' := 9) (ji := 93) rfl fg_X12_549 kd_133 dX12_matter_6 rfl ?_
  show Wp _ _ _ _ _ _ [gI (σ 133 93)]
  rw [hI.f93]
  refine w_bipush (pc' := 11) (by decide) (by decide) dX12_matter_9 rfl ?_
  refine w_icmp_eq (pc' := 14) (t := 29) dX12_matter_11 rfl rfl (fun c_11 => ?_) (fun c_11 => ?_)
  · skip
    refine w_iconst (pc' := 30) (by decide) dX12_matter_29 rfl ?_
    refine v_ireturn rfl dX12_matter_30 ?_
    first
      | (exfalso; omega)
      | exact ⟨(by first | rfl | exact congrArg gI (by omega) | exact congrArg gI (gb_t (by omega)) | exact congrArg gI (gb_f (by omega)) | (refine congrArg gI ?_; (repeat' split) <;> omega)), rfl⟩
  · skip
    refine w_aload_n (pc' := 15) (i := 0) (by rfl) (by rfl) dX12_matter_14 rfl ?_
    refine w_iload_n (pc' := 16) (i := 1) (by rfl) (by rfl) dX12_matter_15 rfl ?_
    refine v_callVE (pc' := 19) (st' := [gI (gb (0 ≤ f ∧ f < (σ 133 6)))]) (d' := 0) (av := [gI f]) mi_mX12_isParty lk_X12_276 rfl ci_X12 kd_133 rfl (Nat.le_of_ble_eq_true rfl) (Nat.le_of_ble_eq_true rfl) dX12_matter_16 rfl rfl (mo_isParty (gUp (gUp (gUp (gUp σ 127 (σ 125 5) f) 128 (σ 125 5) d) 125 5 (σ 125 5 + 1)) 133 0 0)  f) ?_
    refine v_if_eqB (pc' := 22) (t := 29) dX12_matter_19 rfl rfl (fun c_19 => ?_) (fun c_19 => ?_)
    · skip
      refine w_iconst (pc' := 30) (by decide) dX12_matter_29 rfl ?_
      refine v_ireturn rfl dX12_matter_30 ?_
      first
        | (exfalso; omega)
        | exact ⟨(by first | rfl | exact congrArg gI (by omega) | exact congrArg gI (gb_t (by omega)) | exact congrArg gI (gb_f (by omega)) | (refine congrArg gI ?_; (repeat' split) <;> omega)), rfl⟩
    · skip
      refine w_iload_n (pc' := 23) (i := 2) (by rfl) (by rfl) dX12_matter_22 rfl ?_
      refine v_callSE (pc' := 26) (st' := [gI (gb (0 ≤ d ∧ d ≤ 9999))]) (d' := 0) (av := [gI d]) ms_mX12_isDay st_mX12_isDay lk_X12_279 rfl rfl (Nat.le_of_ble_eq_true rfl) (Nat.le_of_ble_eq_true rfl) dX12_matter_23 rfl rfl (mo_isDay (gUp (gUp (gUp (gUp σ 127 (σ 125 5) f) 128 (σ 125 5) d) 125 5 (σ 125 5 + 1)) 133 0 0) d) ?_
      refine v_if_neB (pc' := 29) (t := 31) dX12_matter_26 rfl rfl (fun c_26 => ?_) (fun c_26 => ?_)
      · skip
        refine w_aload_n (pc' := 32) (i := 0) (by rfl) (by rfl) dX12_matter_31 rfl ?_
        refine w_getS (pc' := 35) (q := 190) fg_X12_190 kd_133 sf_X12_90 gr_133_90 dX12_matter_32 rfl ?_
        refine w_aload_n (pc' := 36) (i := 0) (by rfl) (by rfl) dX12_matter_35 rfl ?_
        refine v_getI (pc' := 39) (ji := 93) rfl fg_X12_549 kd_133 dX12_matter_36 rfl ?_
        show Wp _ _ _ _ _ _ [gI (σ 133 93), gR 190]
        rw [hI.f93]
        refine w_iload_n (pc' := 40) (i := 1) (by rfl) (by rfl) dX12_matter_39 rfl ?_
        refine w_iast (pc' := 41) kd_190 (by omega) (by omega) dX12_matter_40 rfl ?_
        refine w_aload_n (pc' := 42) (i := 0) (by rfl) (by rfl) dX12_matter_41 rfl ?_
        refine w_getS (pc' := 45) (q := 191) fg_X12_193 kd_133 sf_X12_91 gr_133_91 dX12_matter_42 rfl ?_
        refine w_aload_n (pc' := 46) (i := 0) (by rfl) (by rfl) dX12_matter_45 rfl ?_
        refine v_getI (pc' := 49) (ji := 93) rfl fg_X12_549 kd_133 dX12_matter_46 rfl ?_
        show Wp _ _ _ _ _ _ [gI (σ 133 93), gR 191]
        rw [hI.f93]
        refine w_iload_n (pc' := 50) (i := 2) (by rfl) (by rfl) dX12_matter_49 rfl ?_
        refine w_iast (pc' := 51) kd_191 (by omega) (by omega) dX12_matter_50 rfl ?_
        refine w_aload_n (pc' := 52) (i := 0) (by rfl) (by rfl) dX12_matter_51 rfl ?_
        refine w_dup (pc' := 53) dX12_matter_52 rfl ?_
        refine v_getI (pc' := 56) (ji := 93) rfl fg_X12_549 kd_133 dX12_matter_53 rfl ?_
        show Wp _ _ _ _ _ _ [gI (σ 133 93), gR 133]
        rw [hI.f93]
        refine w_iconst (pc' := 57) (by decide) dX12_matter_56 rfl ?_
        refine v_iadd (pc' := 58) (by omega) dX12_matter_57 rfl ?_
        refine v_putI (pc' := 61) (ji := 93) rfl fp_X12_549 kd_133 sf_X12_93 dX12_matter_58 rfl ?_
        refine w_aload_n (pc' := 62) (i := 0) (by rfl) (by rfl) dX12_matter_61 rfl ?_
        refine v_getI (pc' := 65) (ji := 93) rfl fg_X12_549 kd_133 dX12_matter_62 rfl ?_
        show Wp _ _ _ _ _ _ [gI ((σ 125 5) + 1)]
        refine w_iconst (pc' := 66) (by decide) dX12_matter_65 rfl ?_
        refine v_isub (pc' := 67) (by omega) dX12_matter_66 rfl ?_
        refine v_ireturn rfl dX12_matter_67 ?_
        first
          | (exfalso; omega)
          | exact ⟨(by first | rfl | exact congrArg gI (by omega) | exact congrArg gI (gb_t (by omega)) | exact congrArg gI (gb_f (by omega)) | (refine congrArg gI ?_; (repeat' split) <;> omega)), rfl⟩
      · skip
        refine w_iconst (pc' := 30) (by decide) dX12_matter_29 rfl ?_
        refine v_ireturn rfl dX12_matter_30 ?_
        first
          | (exfalso; omega)
          | exact ⟨(by first | rfl | exact congrArg gI (by omega) | exact congrArg gI (gb_t (by omega)) | exact congrArg gI (gb_f (by omega)) | (refine congrArg gI ?_; (repeat' split) <;> omega)), rfl⟩
theorem m_matterF {σ : gH} (hI : Inv σ) (f d : Int)  (hP : ¬ ((0 ≤ f ∧ f < σ 3 2) ∧ (0 ≤ d ∧ d ≤ 9999) ∧ σ 125 5 < 60)) : Mt mX12_matter 30 [gR 133, gI f, gI d] σ (rE (gI (-1)) (gUp σ 133 0 0)) := by
  refine Mt.walk (ls := [gR 133, gI f, gI d]) pn_X12 rfl (fun _ _ h => by cases h.1) (Nat.le_of_ble_eq_true rfl) rfl ?_
  have hday := hI.f.day
  unfold S_day at hday
  have hp := hI.f.hp
  have hp0 := hI.f.party.2.1
  have hT := hI.f.tape.2.1
  have hT2 := hI.f.tape.2.2.1
  have f6 := hI.f6
  have hm0 := hI.f.mem.2.1
  have hm1 := hI.f.mem.2.2.1
  have ht0 := hI.f.mat.2.1
  have ht1 := hI.f.mat.2.2.1
  have hv0 := hI.f.vote.2.1
  have hv1 := hI.f.vote.2.2.1
  have he0 := hI.f.ent.2.1
  have he1 := hI.f.ent.2.2.1
  refine w_aload_n (pc' := 1) (i := 0) (by rfl) (by rfl) dX12_matter_0 rfl ?_
  refine w_iconst (pc' := 2) (by decide) dX12_matter_1 rfl ?_
  refine v_putI (pc' := 5) (ji := 0) rfl fp_X12_244 kd_133 sf_X12_0 dX12_matter_2 rfl ?_
  refine w_aload_n (pc' := 6) (i := 0) (by rfl) (by rfl) dX12_matter_5 rfl ?_
  refine v_getI (pc' := 9) (ji := 93) rfl fg_X12_549 kd_133 dX12_matter_6 rfl ?_
  show Wp _ _ _ _ _ _ [gI (σ 133 93)]
  rw [hI.f93]
  refine w_bipush (pc' := 11) (by decide) (by decide) dX12_matter_9 rfl ?_
  refine w_icmp_eq (pc' := 14) (t := 29) dX12_matter_11 rfl rfl (fun c_11 => ?_) (fun c_11 => ?_)
  · skip
    refine w_iconst (pc' := 30) (by decide) dX12_matter_29 rfl ?_
    refine v_ireturn rfl dX12_matter_30 ?_
    first
      | (exfalso; omega)
      | exact ⟨(by first | rfl | exact congrArg gI (by omega) | exact congrArg gI (gb_t (by omega)) | exact congrArg gI (gb_f (by omega)) | (refine congrArg gI ?_; (repeat' split) <;> omega)), rfl⟩
  · skip
    refine w_aload_n (pc' := 15) (i := 0) (by rfl) (by rfl) dX12_matter_14 rfl ?_
    refine w_iload_n (pc' := 16) (i := 1) (by rfl) (by rfl) dX12_matter_15 rfl ?_
    refine v_callVE (pc' := 19) (st' := [gI (gb (0 ≤ f ∧ f < (σ 133 6)))]) (d' := 0) (av := [gI f]) mi_mX12_isParty lk_X12_276 rfl ci_X12 kd_133 rfl (Nat.le_of_ble_eq_true rfl) (Nat.le_of_ble_eq_true rfl) dX12_matter_16 rfl rfl (mo_isParty (gUp σ 133 0 0)  f) ?_
    refine v_if_eqB (pc' := 22) (t := 29) dX12_matter_19 rfl rfl (fun c_19 => ?_) (fun c_19 => ?_)
    · skip
      refine w_iconst (pc' := 30) (by decide) dX12_matter_29 rfl ?_
      refine v_ireturn rfl dX12_matter_30 ?_
      first
        | (exfalso; omega)
        | exact ⟨(by first | rfl | exact congrArg gI (by omega) | exact congrArg gI (gb_t (by omega)) | exact congrArg gI (gb_f (by omega)) | (refine congrArg gI ?_; (repeat' split) <;> omega)), rfl⟩
    · skip
      refine w_iload_n (pc' := 23) (i := 2) (by rfl) (by rfl) dX12_matter_22 rfl ?_
      refine v_callSE (pc' := 26) (st' := [gI (gb (0 ≤ d ∧ d ≤ 9999))]) (d' := 0) (av := [gI d]) ms_mX12_isDay st_mX12_isDay lk_X12_279 rfl rfl (Nat.le_of_ble_eq_true rfl) (Nat.le_of_ble_eq_true rfl) dX12_matter_23 rfl rfl (mo_isDay (gUp σ 133 0 0) d) ?_
      refine v_if_neB (pc' := 29) (t := 31) dX12_matter_26 rfl rfl (fun c_26 => ?_) (fun c_26 => ?_)
      · skip
        refine w_aload_n (pc' := 32) (i := 0) (by rfl) (by rfl) dX12_matter_31 rfl ?_
        refine w_getS (pc' := 35) (q := 190) fg_X12_190 kd_133 sf_X12_90 gr_133_90 dX12_matter_32 rfl ?_
        refine w_aload_n (pc' := 36) (i := 0) (by rfl) (by rfl) dX12_matter_35 rfl ?_
        refine v_getI (pc' := 39) (ji := 93) rfl fg_X12_549 kd_133 dX12_matter_36 rfl ?_
        show Wp _ _ _ _ _ _ [gI (σ 133 93), gR 190]
        rw [hI.f93]
        refine w_iload_n (pc' := 40) (i := 1) (by rfl) (by rfl) dX12_matter_39 rfl ?_
        refine w_iast (pc' := 41) kd_190 (by omega) (by omega) dX12_matter_40 rfl ?_
        refine w_aload_n (pc' := 42) (i := 0) (by rfl) (by rfl) dX12_matter_41 rfl ?_
        refine w_getS (pc' := 45) (q := 191) fg_X12_193 kd_133 sf_X12_91 gr_133_91 dX12_matter_42 rfl ?_
        refine w_aload_n (pc' := 46) (i := 0) (by rfl) (by rfl) dX12_matter_45 rfl ?_
        refine v_getI (pc' := 49) (ji := 93) rfl fg_X12_549 kd_133 dX12_matter_46 rfl ?_
        show Wp _ _ _ _ _ _ [gI (σ 133 93), gR 191]
        rw [hI.f93]
        refine w_iload_n (pc' := 50) (i := 2) (by rfl) (by rfl) dX12_matter_49 rfl ?_
        refine w_iast (pc' := 51) kd_191 (by omega) (by omega) dX12_matter_50 rfl ?_
        refine w_aload_n (pc' := 52) (i := 0) (by rfl) (by rfl) dX12_matter_51 rfl ?_
        refine w_dup (pc' := 53) dX12_matter_52 rfl ?_
        refine v_getI (pc' := 56) (ji := 93) rfl fg_X12_549 kd_133 dX12_matter_53 rfl ?_
        show Wp _ _ _ _ _ _ [gI (σ 133 93), gR 133]
        rw [hI.f93]
        refine w_iconst (pc' := 57) (by decide) dX12_matter_56 rfl ?_
        refine v_iadd (pc' := 58) (by omega) dX12_matter_57 rfl ?_
        refine v_putI (pc' := 61) (ji := 93) rfl fp_X12_549 kd_133 sf_X12_93 dX12_matter_58 rfl ?_
        refine w_aload_n (pc' := 62) (i := 0) (by rfl) (by rfl) dX12_matter_61 rfl ?_
        refine v_getI (pc' := 65) (ji := 93) rfl fg_X12_549 kd_133 dX12_matter_62 rfl ?_
        show Wp _ _ _ _ _ _ [gI ((σ 125 5) + 1)]
        refine w_iconst (pc' := 66) (by decide) dX12_matter_65 rfl ?_
        refine v_isub (pc' := 67) (by omega) dX12_matter_66 rfl ?_
        refine v_ireturn rfl dX12_matter_67 ?_
        first
          | (exfalso; omega)
          | exact ⟨(by first | rfl | exact congrArg gI (by omega) | exact congrArg gI (gb_t (by omega)) | exact congrArg gI (gb_f (by omega)) | (refine congrArg gI ?_; (repeat' split) <;> omega)), rfl⟩
      · skip
        refine w_iconst (pc' := 30) (by decide) dX12_matter_29 rfl ?_
        refine v_ireturn rfl dX12_matter_30 ?_
        first
          | (exfalso; omega)
          | exact ⟨(by first | rfl | exact congrArg gI (by omega) | exact congrArg gI (gb_t (by omega)) | exact congrArg gI (gb_f (by omega)) | (refine congrArg gI ?_; (repeat' split) <;> omega)), rfl⟩
theorem i_matter {σ : gH} (hI : Inv σ) (f d : Int)  (hP : (0 ≤ f ∧ f < σ 3 2) ∧ (0 ≤ d ∧ d ≤ 9999) ∧ σ 125 5 < 60) : Inv (gUp (gUp (gUp (gUp (gUp (gUp (gUp σ 127 (σ 125 5) f) 128 (σ 125 5) d) 125 5 (σ 125 5 + 1)) 133 0 0) 190 (σ 125 5) f) 191 (σ 125 5) d) 133 93 ((σ 125 5) + 1)) := by
  refine ⟨⟨⟨hI.f.day, hI.f.tape, hI.f.outs, hI.f.party, hI.f.own, hI.f.kin, hI.f.post, hI.f.gift, hI.f.worth, hI.f.mem, ?_, ?_, hI.f.ent⟩, hI.law, hI.ord⟩, hI.2.1, hI.mod⟩
  · have hS := hI.f.mat
    refine ⟨?_, ?_, ?_, fun i h0 h1 => ?_⟩
    · exact rfl
    · show 0 ≤ σ 125 5 + 1
      have := hS.2.1
      omega
    · show σ 125 5 + 1 ≤ 60
      omega
    · have h2 : i < σ 125 5 + 1 := h1
      show (if i = σ 125 5 then f else σ 190 i) = (if i = σ 125 5 then f else σ 127 i) ∧ (if i = σ 125 5 then d else σ 191 i) = (if i = σ 125 5 then d else σ 128 i) ∧ isP σ ((if i = σ 125 5 then f else σ 127 i)) ∧ isDy ((if i = σ 125 5 then d else σ 128 i))
      by_cases hi : i = σ 125 5
      · simp only [if_pos hi]
        exact ⟨trivial, trivial, hP.1, hP.2.1⟩
      · simp only [if_neg hi]
        exact hS.2.2.2 i h0 (by omega)
  · have hS := hI.f.vote
    refine ⟨hS.1, hS.2.1, hS.2.2.1, fun i h0 h1 => ?_⟩
    obtain ⟨a1, a2, a3, a4, a5, a6, a7⟩ := hS.2.2.2 i h0 h1
    exact ⟨a1, a2, a3, a4, a5, by show σ 129 i < σ 125 5 + 1; omega, a7⟩
theorem ci_matter (f d : Int)  : CI Inv mX11_matter mX12_matter [gI f, gI d] := CI_reg (fun σ => (0 ≤ f ∧ f < σ 3 2) ∧ (0 ≤ d ∧ d ≤ 9999) ∧ σ 125 5 < 60) (fun σ => σ 125 5) (fun σ => -1) (fun σ => gUp (gUp (gUp σ 127 (σ 125 5) f) 128 (σ 125 5) d) 125 5 (σ 125 5 + 1)) (fun σ => σ) (fun σ => gUp (gUp (gUp (gUp (gUp (gUp (gUp σ 127 (σ 125 5) f) 128 (σ 125 5) d) 125 5 (σ 125 5 + 1)) 133 0 0) 190 (σ 125 5) f) 191 (σ 125 5) d) 133 93 ((σ 125 5) + 1)) (fun σ => gUp σ 133 0 0) (fun σ hI => x_matter hI f d ) (fun σ hI hP => m_matterT hI f d  hP) (fun σ hI hP => m_matterF hI f d  hP) (fun σ hI hP => i_matter hI f d  hP) (fun σ hI _ => hI.thrown)
theorem k_hasMatter (σ : gH) (hs : σ 125 5 ≤ 60) (m : Int) : Mt mX1_hasMatter 0 [gR 125, gI m] σ (rE (gI (gb (0 ≤ m ∧ m < σ 125 5))) σ) := by
  refine Mt.walk (ls := [gR 125, gI m]) pn_X1 rfl (fun _ _ h => by cases h.1) (Nat.le_of_ble_eq_true rfl) rfl ?_
  refine w_iload_n (pc' := 1) (i := 1) (by rfl) (by rfl) dX1_hasMatter_0 rfl ?_
  refine w_if_lt (pc' := 4) (t := 22) dX1_hasMatter_1 rfl rfl (fun c_1 => ?_) (fun c_1 => ?_)
  · skip
    refine w_iconst (pc' := 23) (by decide) dX1_hasMatter_22 rfl ?_
    refine w_zreturn rfl (.inl rfl) dX1_hasMatter_23 ?_
    first | (exfalso; omega) | exact ⟨gbT (by omega), rfl⟩ | exact ⟨gbF (by omega), rfl⟩
  · skip
    refine w_iload_n (pc' := 5) (i := 1) (by rfl) (by rfl) dX1_hasMatter_4 rfl ?_
    refine w_aload_n (pc' := 6) (i := 0) (by rfl) (by rfl) dX1_hasMatter_5 rfl ?_
    refine v_getI (pc' := 9) (ji := 5) rfl fg_X1_42 kd_125 dX1_hasMatter_6 rfl ?_
    refine w_icmp_ge (pc' := 12) (t := 22) dX1_hasMatter_9 rfl rfl (fun c_9 => ?_) (fun c_9 => ?_)
    · skip
      refine w_iconst (pc' := 23) (by decide) dX1_hasMatter_22 rfl ?_
      refine w_zreturn rfl (.inl rfl) dX1_hasMatter_23 ?_
      first | (exfalso; omega) | exact ⟨gbT (by omega), rfl⟩ | exact ⟨gbF (by omega), rfl⟩
    · skip
      refine w_iload_n (pc' := 13) (i := 1) (by rfl) (by rfl) dX1_hasMatter_12 rfl ?_
      refine w_bipush (pc' := 15) (by decide) (by decide) dX1_hasMatter_13 rfl ?_
      refine w_icmp_ge (pc' := 18) (t := 22) dX1_hasMatter_15 rfl rfl (fun c_15 => ?_) (fun c_15 => ?_)
      · skip
        refine w_iconst (pc' := 23) (by decide) dX1_hasMatter_22 rfl ?_
        refine w_zreturn rfl (.inl rfl) dX1_hasMatter_23 ?_
        first | (exfalso; omega) | exact ⟨gbT (by omega), rfl⟩ | exact ⟨gbF (by omega), rfl⟩
      · skip
        refine w_iconst (pc' := 19) (by decide) dX1_hasMatter_18 rfl ?_
        refine w_goto (pc' := 23) dX1_hasMatter_19 rfl ?_
        refine w_zreturn rfl (.inr rfl) dX1_hasMatter_23 ?_
        first | (exfalso; omega) | exact ⟨gbT (by omega), rfl⟩ | exact ⟨gbF (by omega), rfl⟩
theorem mo_isMatter (σ : gH) (m : Int) : Mt mX12_isMatter 0 [gR 133, gI m] σ (rE (gI (gb (0 ≤ m ∧ m < σ 133 93))) σ) := by
  refine Mt.walk (ls := [gR 133, gI m]) pn_X12 rfl (fun _ _ h => by cases h.1) (Nat.le_of_ble_eq_true rfl) rfl ?_
  refine w_iload_n (pc' := 1) (i := 1) (by rfl) (by rfl) dX12_isMatter_0 rfl ?_
  refine w_if_lt (pc' := 4) (t := 16) dX12_isMatter_1 rfl rfl (fun c_1 => ?_) (fun c_1 => ?_)
  · skip
    refine w_iconst (pc' := 17) (by decide) dX12_isMatter_16 rfl ?_
    refine w_zreturn rfl (.inl rfl) dX12_isMatter_17 ?_
    first | (exfalso; omega) | exact ⟨gbT (by omega), rfl⟩ | exact ⟨gbF (by omega), rfl⟩
  · skip
    refine w_iload_n (pc' := 5) (i := 1) (by rfl) (by rfl) dX12_isMatter_4 rfl ?_
    refine w_aload_n (pc' := 6) (i := 0) (by rfl) (by rfl) dX12_isMatter_5 rfl ?_
    refine v_getI (pc' := 9) (ji := 93) rfl fg_X12_549 kd_133 dX12_isMatter_6 rfl ?_
    refine w_icmp_ge (pc' := 12) (t := 16) dX12_isMatter_9 rfl rfl (fun c_9 => ?_) (fun c_9 => ?_)
    · skip
      refine w_iconst (pc' := 17) (by decide) dX12_isMatter_16 rfl ?_
      refine w_zreturn rfl (.inl rfl) dX12_isMatter_17 ?_
      first | (exfalso; omega) | exact ⟨gbT (by omega), rfl⟩ | exact ⟨gbF (by omega), rfl⟩
    · skip
      refine w_iconst (pc' := 13) (by decide) dX12_isMatter_12 rfl ?_
      refine w_goto (pc' := 17) dX12_isMatter_13 rfl ?_
      refine w_zreturn rfl (.inr rfl) dX12_isMatter_17 ?_
      first | (exfalso; omega) | exact ⟨gbT (by omega), rfl⟩ | exact ⟨gbF (by omega), rfl⟩
theorem k_addVoteT (σ : gH) (m p b t : Int) (hms : 0 ≤ σ 125 2 ∧ σ 125 2 ≤ 12) (hmt : σ 125 5 ≤ 60) (hvs : 0 ≤ σ 125 10) (hb : b = 0 ∨ b = 1) (hP : (0 ≤ m ∧ m < σ 125 5) ∧ MB σ p ≠ 0 ∧ σ 125 10 < 200 ∧ VT σ m p = 0) : Mt mX1_addVote 1 [gR 125, gI m, gI p, gI b, gI t] σ (rE (gI (σ 125 10)) (gUp (gUp (gUp (gUp (gUp σ 129 (σ 125 10) m) 130 (σ 125 10) p) 131 (σ 125 10) b) 132 (σ 125 10) t) 125 10 (σ 125 10 + 1))) := by
  refine Mt.walk (ls := [gR 125, gI m, gI p, gI b, gI t, gX 1]) pn_X1 rfl (fun _ _ h => by cases h.1) (Nat.le_of_ble_eq_true rfl) rfl ?_
  have hmb := MB_01 σ p
  have hvt := VT_01 σ m p
  refine w_aload_n (pc' := 1) (i := 0) (by rfl) (by rfl) dX1_addVote_0 rfl ?_
  refine w_iload_n (pc' := 2) (i := 1) (by rfl) (by rfl) dX1_addVote_1 rfl ?_
  refine v_callVE (pc' := 5) (st' := [gI (gb (0 ≤ m ∧ m < σ 125 5))]) (d' := 0) (av := [gI m]) mi_mX1_hasMatter lk_X1_52 rfl ci_X1 kd_125 rfl (Nat.le_of_ble_eq_true rfl) (Nat.le_of_ble_eq_true rfl) dX1_addVote_2 rfl rfl (k_hasMatter σ (show σ 125 5 ≤ 60 by omega) m) ?_
  refine v_if_eqB (pc' := 8) (t := 33) dX1_addVote_5 rfl rfl (fun c_5 => ?_) (fun c_5 => ?_)
  · skip
    refine w_iconst (pc' := 34) (by decide) dX1_addVote_33 rfl ?_
    refine v_ireturn rfl dX1_addVote_34 ?_
    first | (exfalso; omega) | (exfalso; have e : VT σ m p = 1 := anyI_1 h0 (by omega) ⟨by omega, by omega⟩; omega) | exact ⟨congrArg gI (by omega), rfl⟩
  · skip
    refine w_aload_n (pc' := 9) (i := 0) (by rfl) (by rfl) dX1_addVote_8 rfl ?_
    refine w_iload_n (pc' := 10) (i := 2) (by rfl) (by rfl) dX1_addVote_9 rfl ?_
    refine v_callVE (pc' := 13) (st' := [gI (MB σ p)]) (d' := 0) (av := [gI p]) mi_mX1_isMember lk_X1_48 rfl ci_X1 kd_125 rfl (Nat.le_of_ble_eq_true rfl) (Nat.le_of_ble_eq_true rfl) dX1_addVote_10 rfl rfl (k_isMember σ (show σ 125 2 ≤ 12 by omega) p) ?_
    refine w_if_eq (pc' := 16) (t := 33) dX1_addVote_13 rfl rfl (fun c_13 => ?_) (fun c_13 => ?_)
    · skip
      refine w_iconst (pc' := 34) (by decide) dX1_addVote_33 rfl ?_
      refine v_ireturn rfl dX1_addVote_34 ?_
      first | (exfalso; omega) | (exfalso; have e : VT σ m p = 1 := anyI_1 h0 (by omega) ⟨by omega, by omega⟩; omega) | exact ⟨congrArg gI (by omega), rfl⟩
    · skip
      refine w_aload_n (pc' := 17) (i := 0) (by rfl) (by rfl) dX1_addVote_16 rfl ?_
      refine v_getI (pc' := 20) (ji := 10) rfl fg_X1_45 kd_125 dX1_addVote_17 rfl ?_
      refine w_if_lt (pc' := 23) (t := 33) dX1_addVote_20 rfl rfl (fun c_20 => ?_) (fun c_20 => ?_)
      · skip
        refine w_iconst (pc' := 34) (by decide) dX1_addVote_33 rfl ?_
        refine v_ireturn rfl dX1_addVote_34 ?_
        first | (exfalso; omega) | (exfalso; have e : VT σ m p = 1 := anyI_1 h0 (by omega) ⟨by omega, by omega⟩; omega) | exact ⟨congrArg gI (by omega), rfl⟩
      · skip
        refine w_aload_n (pc' := 24) (i := 0) (by rfl) (by rfl) dX1_addVote_23 rfl ?_
        refine v_getI (pc' := 27) (ji := 10) rfl fg_X1_45 kd_125 dX1_addVote_24 rfl ?_
        refine w_sipush (pc' := 30) (by decide) (by decide) dX1_addVote_27 rfl ?_
        refine w_icmp_lt (pc' := 33) (t := 35) dX1_addVote_30 rfl rfl (fun c_30 => ?_) (fun c_30 => ?_)
        · skip
          refine w_iconst (pc' := 36) (by decide) dX1_addVote_35 rfl ?_
          refine w_istore (pc' := 38) (ls' := [gR 125, gI m, gI p, gI b, gI t, gI 0]) (by decide) (by rfl) dX1_addVote_36 rfl ?_
          have hl_38 : ∀ (mm : Nat) (i : Int), (σ 125 10 - i).toNat = mm → (0 ≤ i) → (∀ j, 0 ≤ j → j < i → ¬ (σ 129 j = m ∧ σ 130 j = p)) → Wp mX1_addVote 1 (rE (gI (σ 125 10)) (gUp (gUp (gUp (gUp (gUp σ 129 (σ 125 10) m) 130 (σ 125 10) p) 131 (σ 125 10) b) 132 (σ 125 10) t) 125 10 (σ 125 10 + 1))) σ 38 [gR 125, gI m, gI p, gI b, gI t, gI i] [] := by
            intro m_38
            induction m_38 using Nat.strongRecOn with
            | _ m_38 ih_38 =>
              intro i hmeas_38 h0 hz
              refine w_iload (pc' := 40) (by rfl) dX1_addVote_38 rfl ?_
              refine w_aload_n (pc' := 41) (i := 0) (by rfl) (by rfl) dX1_addVote_40 rfl ?_
              refine v_getI (pc' := 44) (ji := 10) rfl fg_X1_45 kd_125 dX1_addVote_41 rfl ?_
              refine w_icmp_ge (pc' := 47) (t := 77) dX1_addVote_44 rfl rfl (fun c_44 => ?_) (fun c_44 => ?_)
              · skip
                refine w_aload_n (pc' := 78) (i := 0) (by rfl) (by rfl) dX1_addVote_77 rfl ?_
                refine w_getS (pc' := 81) (q := 129) fg_X1_21 kd_125 sf_X1_6 gr_125_6 dX1_addVote_78 rfl ?_
                refine w_aload_n (pc' := 82) (i := 0) (by rfl) (by rfl) dX1_addVote_81 rfl ?_
                refine v_getI (pc' := 85) (ji := 10) rfl fg_X1_45 kd_125 dX1_addVote_82 rfl ?_
                refine w_iload_n (pc' := 86) (i := 1) (by rfl) (by rfl) dX1_addVote_85 rfl ?_
                refine w_iast (pc' := 87) kd_129 (by omega) (by omega) dX1_addVote_86 rfl ?_
                refine w_aload_n (pc' := 88) (i := 0) (by rfl) (by rfl) dX1_addVote_87 rfl ?_
                refine w_getS (pc' := 91) (q := 130) fg_X1_24 kd_125 sf_X1_7 gr_125_7 dX1_addVote_88 rfl ?_
                refine w_aload_n (pc' := 92) (i := 0) (by rfl) (by rfl) dX1_addVote_91 rfl ?_
                refine v_getI (pc' := 95) (ji := 10) rfl fg_X1_45 kd_125 dX1_addVote_92 rfl ?_
                show Wp _ _ _ _ _ _ [gI (σ 125 10), gR 130]
                refine w_iload_n (pc' := 96) (i := 2) (by rfl) (by rfl) dX1_addVote_95 rfl ?_
                refine w_iast (pc' := 97) kd_130 (by omega) (by omega) dX1_addVote_96 rfl ?_
                refine w_aload_n (pc' := 98) (i := 0) (by rfl) (by rfl) dX1_addVote_97 rfl ?_
                refine w_getS (pc' := 101) (q := 131) fg_X1_27 kd_125 sf_X1_8 gr_125_8 dX1_addVote_98 rfl ?_
                refine w_aload_n (pc' := 102) (i := 0) (by rfl) (by rfl) dX1_addVote_101 rfl ?_
                refine v_getI (pc' := 105) (ji := 10) rfl fg_X1_45 kd_125 dX1_addVote_102 rfl ?_
                show Wp _ _ _ _ _ _ [gI (σ 125 10), gR 131]
                refine w_iload_n (pc' := 106) (i := 3) (by rfl) (by rfl) dX1_addVote_105 rfl ?_
                refine w_zast (pc' := 107) kd_131 (by exact hb) (by omega) (by omega) dX1_addVote_106 rfl ?_
                refine w_aload_n (pc' := 108) (i := 0) (by rfl) (by rfl) dX1_addVote_107 rfl ?_
                refine w_getS (pc' := 111) (q := 132) fg_X1_31 kd_125 sf_X1_9 gr_125_9 dX1_addVote_108 rfl ?_
                refine w_aload_n (pc' := 112) (i := 0) (by rfl) (by rfl) dX1_addVote_111 rfl ?_
                refine v_getI (pc' := 115) (ji := 10) rfl fg_X1_45 kd_125 dX1_addVote_112 rfl ?_
                show Wp _ _ _ _ _ _ [gI (σ 125 10), gR 132]
                refine w_iload (pc' := 117) (by rfl) dX1_addVote_115 rfl ?_
                refine w_iast (pc' := 118) kd_132 (by omega) (by omega) dX1_addVote_117 rfl ?_
                refine w_aload_n (pc' := 119) (i := 0) (by rfl) (by rfl) dX1_addVote_118 rfl ?_
                refine w_dup (pc' := 120) dX1_addVote_119 rfl ?_
                refine v_getI (pc' := 123) (ji := 10) rfl fg_X1_45 kd_125 dX1_addVote_120 rfl ?_
                show Wp _ _ _ _ _ _ [gI (σ 125 10), gR 125]
                refine w_iconst (pc' := 124) (by decide) dX1_addVote_123 rfl ?_
                refine v_iadd (pc' := 125) (by omega) dX1_addVote_124 rfl ?_
                refine v_putI (pc' := 128) (ji := 10) rfl fp_X1_45 kd_125 sf_X1_10 dX1_addVote_125 rfl ?_
                refine w_aload_n (pc' := 129) (i := 0) (by rfl) (by rfl) dX1_addVote_128 rfl ?_
                refine v_getI (pc' := 132) (ji := 10) rfl fg_X1_45 kd_125 dX1_addVote_129 rfl ?_
                show Wp _ _ _ _ _ _ [gI ((σ 125 10) + 1)]
                refine w_iconst (pc' := 133) (by decide) dX1_addVote_132 rfl ?_
                refine v_isub (pc' := 134) (by omega) dX1_addVote_133 rfl ?_
                refine v_ireturn rfl dX1_addVote_134 ?_
                first | (exfalso; omega) | (exfalso; have e : VT σ m p = 1 := anyI_1 h0 (by omega) ⟨by omega, by omega⟩; omega) | exact ⟨congrArg gI (by omega), rfl⟩
              · skip
                refine w_aload_n (pc' := 48) (i := 0) (by rfl) (by rfl) dX1_addVote_47 rfl ?_
                refine w_getS (pc' := 51) (q := 129) fg_X1_21 kd_125 sf_X1_6 gr_125_6 dX1_addVote_48 rfl ?_
                refine w_iload (pc' := 53) (by rfl) dX1_addVote_51 rfl ?_
                refine w_iald (pc' := 54) kd_129 (by omega) (by omega) dX1_addVote_53 rfl ?_
                refine w_iload_n (pc' := 55) (i := 1) (by rfl) (by rfl) dX1_addVote_54 rfl ?_
                refine w_icmp_ne (pc' := 58) (t := 71) dX1_addVote_55 rfl rfl (fun c_55 => ?_) (fun c_55 => ?_)
                · skip
                  refine v_iinc (pc' := 74) (x := i) (ls' := [gR 125, gI m, gI p, gI b, gI t, gI (i + 1)]) (by omega) (by decide) (by rfl) (by rfl) dX1_addVote_71 rfl ?_
                  refine w_goto (pc' := 38) dX1_addVote_74 rfl ?_
                  exact ih_38 _ (by omega) (i + 1) rfl (by omega) (by intro j a b; by_cases e : j = i; rw [e]; omega; exact hz j a (by omega))
                · skip
                  refine w_aload_n (pc' := 59) (i := 0) (by rfl) (by rfl) dX1_addVote_58 rfl ?_
                  refine w_getS (pc' := 62) (q := 130) fg_X1_24 kd_125 sf_X1_7 gr_125_7 dX1_addVote_59 rfl ?_
                  refine w_iload (pc' := 64) (by rfl) dX1_addVote_62 rfl ?_
                  refine w_iald (pc' := 65) kd_130 (by omega) (by omega) dX1_addVote_64 rfl ?_
                  refine w_iload_n (pc' := 66) (i := 2) (by rfl) (by rfl) dX1_addVote_65 rfl ?_
                  refine w_icmp_ne (pc' := 69) (t := 71) dX1_addVote_66 rfl rfl (fun c_66 => ?_) (fun c_66 => ?_)
                  · skip
                    refine v_iinc (pc' := 74) (x := i) (ls' := [gR 125, gI m, gI p, gI b, gI t, gI (i + 1)]) (by omega) (by decide) (by rfl) (by rfl) dX1_addVote_71 rfl ?_
                    refine w_goto (pc' := 38) dX1_addVote_74 rfl ?_
                    exact ih_38 _ (by omega) (i + 1) rfl (by omega) (by intro j a b; by_cases e : j = i; rw [e]; omega; exact hz j a (by omega))
                  · skip
                    refine w_iconst (pc' := 70) (by decide) dX1_addVote_69 rfl ?_
                    refine v_ireturn rfl dX1_addVote_70 ?_
                    first | (exfalso; omega) | (exfalso; have e : VT σ m p = 1 := anyI_1 h0 (by omega) ⟨by omega, by omega⟩; omega) | exact ⟨congrArg gI (by omega), rfl⟩
          exact hl_38 _ 0 rfl (by omega) (by intro j a b; omega)
        · skip
          refine w_iconst (pc' := 34) (by decide) dX1_addVote_33 rfl ?_
          refine v_ireturn rfl dX1_addVote_34 ?_
          first | (exfalso; omega) | (exfalso; have e : VT σ m p = 1 := anyI_1 h0 (by omega) ⟨by omega, by omega⟩; omega) | exact ⟨congrArg gI (by omega), rfl⟩
theorem k_addVoteF (σ : gH) (m p b t : Int) (hms : 0 ≤ σ 125 2 ∧ σ 125 2 ≤ 12) (hmt : σ 125 5 ≤ 60) (hvs : 0 ≤ σ 125 10) (hb : b = 0 ∨ b = 1) (hP : ¬ ((0 ≤ m ∧ m < σ 125 5) ∧ MB σ p ≠ 0 ∧ σ 125 10 < 200 ∧ VT σ m p = 0)) : Mt mX1_addVote 1 [gR 125, gI m, gI p, gI b, gI t] σ (rE (gI (-1)) σ) := by
  refine Mt.walk (ls := [gR 125, gI m, gI p, gI b, gI t, gX 1]) pn_X1 rfl (fun _ _ h => by cases h.1) (Nat.le_of_ble_eq_true rfl) rfl ?_
  have hmb := MB_01 σ p
  have hvt := VT_01 σ m p
  refine w_aload_n (pc' := 1) (i := 0) (by rfl) (by rfl) dX1_addVote_0 rfl ?_
  refine w_iload_n (pc' := 2) (i := 1) (by rfl) (by rfl) dX1_addVote_1 rfl ?_
  refine v_callVE (pc' := 5) (st' := [gI (gb (0 ≤ m ∧ m < σ 125 5))]) (d' := 0) (av := [gI m]) mi_mX1_hasMatter lk_X1_52 rfl ci_X1 kd_125 rfl (Nat.le_of_ble_eq_true rfl) (Nat.le_of_ble_eq_true rfl) dX1_addVote_2 rfl rfl (k_hasMatter σ (show σ 125 5 ≤ 60 by omega) m) ?_
  refine v_if_eqB (pc' := 8) (t := 33) dX1_addVote_5 rfl rfl (fun c_5 => ?_) (fun c_5 => ?_)
  · skip
    refine w_iconst (pc' := 34) (by decide) dX1_addVote_33 rfl ?_
    refine v_ireturn rfl dX1_addVote_34 ?_
    first | (exfalso; omega) | (exfalso; have e : VT σ m p = 0 := anyI_0 (fun j a b => hz j a (by omega)); omega) | exact ⟨rfl, rfl⟩
  · skip
    refine w_aload_n (pc' := 9) (i := 0) (by rfl) (by rfl) dX1_addVote_8 rfl ?_
    refine w_iload_n (pc' := 10) (i := 2) (by rfl) (by rfl) dX1_addVote_9 rfl ?_
    refine v_callVE (pc' := 13) (st' := [gI (MB σ p)]) (d' := 0) (av := [gI p]) mi_mX1_isMember lk_X1_48 rfl ci_X1 kd_125 rfl (Nat.le_of_ble_eq_true rfl) (Nat.le_of_ble_eq_true rfl) dX1_addVote_10 rfl rfl (k_isMember σ (show σ 125 2 ≤ 12 by omega) p) ?_
    refine w_if_eq (pc' := 16) (t := 33) dX1_addVote_13 rfl rfl (fun c_13 => ?_) (fun c_13 => ?_)
    · skip
      refine w_iconst (pc' := 34) (by decide) dX1_addVote_33 rfl ?_
      refine v_ireturn rfl dX1_addVote_34 ?_
      first | (exfalso; omega) | (exfalso; have e : VT σ m p = 0 := anyI_0 (fun j a b => hz j a (by omega)); omega) | exact ⟨rfl, rfl⟩
    · skip
      refine w_aload_n (pc' := 17) (i := 0) (by rfl) (by rfl) dX1_addVote_16 rfl ?_
      refine v_getI (pc' := 20) (ji := 10) rfl fg_X1_45 kd_125 dX1_addVote_17 rfl ?_
      refine w_if_lt (pc' := 23) (t := 33) dX1_addVote_20 rfl rfl (fun c_20 => ?_) (fun c_20 => ?_)
      · skip
        refine w_iconst (pc' := 34) (by decide) dX1_addVote_33 rfl ?_
        refine v_ireturn rfl dX1_addVote_34 ?_
        first | (exfalso; omega) | (exfalso; have e : VT σ m p = 0 := anyI_0 (fun j a b => hz j a (by omega)); omega) | exact ⟨rfl, rfl⟩
      · skip
        refine w_aload_n (pc' := 24) (i := 0) (by rfl) (by rfl) dX1_addVote_23 rfl ?_
        refine v_getI (pc' := 27) (ji := 10) rfl fg_X1_45 kd_125 dX1_addVote_24 rfl ?_
        refine w_sipush (pc' := 30) (by decide) (by decide) dX1_addVote_27 rfl ?_
        refine w_icmp_lt (pc' := 33) (t := 35) dX1_addVote_30 rfl rfl (fun c_30 => ?_) (fun c_30 => ?_)
        · skip
          refine w_iconst (pc' := 36) (by decide) dX1_addVote_35 rfl ?_
          refine w_istore (pc' := 38) (ls' := [gR 125, gI m, gI p, gI b, gI t, gI 0]) (by decide) (by rfl) dX1_addVote_36 rfl ?_
          have hl_38 : ∀ (mm : Nat) (i : Int), (σ 125 10 - i).toNat = mm → (0 ≤ i) → (∀ j, 0 ≤ j → j < i → ¬ (σ 129 j = m ∧ σ 130 j = p)) → Wp mX1_addVote 1 (rE (gI (-1)) σ) σ 38 [gR 125, gI m, gI p, gI b, gI t, gI i] [] := by
            intro m_38
            induction m_38 using Nat.strongRecOn with
            | _ m_38 ih_38 =>
              intro i hmeas_38 h0 hz
              refine w_iload (pc' := 40) (by rfl) dX1_addVote_38 rfl ?_
              refine w_aload_n (pc' := 41) (i := 0) (by rfl) (by rfl) dX1_addVote_40 rfl ?_
              refine v_getI (pc' := 44) (ji := 10) rfl fg_X1_45 kd_125 dX1_addVote_41 rfl ?_
              refine w_icmp_ge (pc' := 47) (t := 77) dX1_addVote_44 rfl rfl (fun c_44 => ?_) (fun c_44 => ?_)
              · skip
                refine w_aload_n (pc' := 78) (i := 0) (by rfl) (by rfl) dX1_addVote_77 rfl ?_
                refine w_getS (pc' := 81) (q := 129) fg_X1_21 kd_125 sf_X1_6 gr_125_6 dX1_addVote_78 rfl ?_
                refine w_aload_n (pc' := 82) (i := 0) (by rfl) (by rfl) dX1_addVote_81 rfl ?_
                refine v_getI (pc' := 85) (ji := 10) rfl fg_X1_45 kd_125 dX1_addVote_82 rfl ?_
                refine w_iload_n (pc' := 86) (i := 1) (by rfl) (by rfl) dX1_addVote_85 rfl ?_
                refine w_iast (pc' := 87) kd_129 (by omega) (by omega) dX1_addVote_86 rfl ?_
                refine w_aload_n (pc' := 88) (i := 0) (by rfl) (by rfl) dX1_addVote_87 rfl ?_
                refine w_getS (pc' := 91) (q := 130) fg_X1_24 kd_125 sf_X1_7 gr_125_7 dX1_addVote_88 rfl ?_
                refine w_aload_n (pc' := 92) (i := 0) (by rfl) (by rfl) dX1_addVote_91 rfl ?_
                refine v_getI (pc' := 95) (ji := 10) rfl fg_X1_45 kd_125 dX1_addVote_92 rfl ?_
                show Wp _ _ _ _ _ _ [gI (σ 125 10), gR 130]
                refine w_iload_n (pc' := 96) (i := 2) (by rfl) (by rfl) dX1_addVote_95 rfl ?_
                refine w_iast (pc' := 97) kd_130 (by omega) (by omega) dX1_addVote_96 rfl ?_
                refine w_aload_n (pc' := 98) (i := 0) (by rfl) (by rfl) dX1_addVote_97 rfl ?_
                refine w_getS (pc' := 101) (q := 131) fg_X1_27 kd_125 sf_X1_8 gr_125_8 dX1_addVote_98 rfl ?_
                refine w_aload_n (pc' := 102) (i := 0) (by rfl) (by rfl) dX1_addVote_101 rfl ?_
                refine v_getI (pc' := 105) (ji := 10) rfl fg_X1_45 kd_125 dX1_addVote_102 rfl ?_
                show Wp _ _ _ _ _ _ [gI (σ 125 10), gR 131]
                refine w_iload_n (pc' := 106) (i := 3) (by rfl) (by rfl) dX1_addVote_105 rfl ?_
                refine w_zast (pc' := 107) kd_131 (by exact hb) (by omega) (by omega) dX1_addVote_106 rfl ?_
                refine w_aload_n (pc' := 108) (i := 0) (by rfl) (by rfl) dX1_addVote_107 rfl ?_
                refine w_getS (pc' := 111) (q := 132) fg_X1_31 kd_125 sf_X1_9 gr_125_9 dX1_addVote_108 rfl ?_
                refine w_aload_n (pc' := 112) (i := 0) (by rfl) (by rfl) dX1_addVote_111 rfl ?_
                refine v_getI (pc' := 115) (ji := 10) rfl fg_X1_45 kd_125 dX1_addVote_112 rfl ?_
                show Wp _ _ _ _ _ _ [gI (σ 125 10), gR 132]
                refine w_iload (pc' := 117) (by rfl) dX1_addVote_115 rfl ?_
                refine w_iast (pc' := 118) kd_132 (by omega) (by omega) dX1_addVote_117 rfl ?_
                refine w_aload_n (pc' := 119) (i := 0) (by rfl) (by rfl) dX1_addVote_118 rfl ?_
                refine w_dup (pc' := 120) dX1_addVote_119 rfl ?_
                refine v_getI (pc' := 123) (ji := 10) rfl fg_X1_45 kd_125 dX1_addVote_120 rfl ?_
                show Wp _ _ _ _ _ _ [gI (σ 125 10), gR 125]
                refine w_iconst (pc' := 124) (by decide) dX1_addVote_123 rfl ?_
                refine v_iadd (pc' := 125) (by omega) dX1_addVote_124 rfl ?_
                refine v_putI (pc' := 128) (ji := 10) rfl fp_X1_45 kd_125 sf_X1_10 dX1_addVote_125 rfl ?_
                refine w_aload_n (pc' := 129) (i := 0) (by rfl) (by rfl) dX1_addVote_128 rfl ?_
                refine v_getI (pc' := 132) (ji := 10) rfl fg_X1_45 kd_125 dX1_addVote_129 rfl ?_
                show Wp _ _ _ _ _ _ [gI ((σ 125 10) + 1)]
                refine w_iconst (pc' := 133) (by decide) dX1_addVote_132 rfl ?_
                refine v_isub (pc' := 134) (by omega) dX1_addVote_133 rfl ?_
                refine v_ireturn rfl dX1_addVote_134 ?_
                first | (exfalso; omega) | (exfalso; have e : VT σ m p = 0 := anyI_0 (fun j a b => hz j a (by omega)); omega) | exact ⟨rfl, rfl⟩
              · skip
                refine w_aload_n (pc' := 48) (i := 0) (by rfl) (by rfl) dX1_addVote_47 rfl ?_
                refine w_getS (pc' := 51) (q := 129) fg_X1_21 kd_125 sf_X1_6 gr_125_6 dX1_addVote_48 rfl ?_
                refine w_iload (pc' := 53) (by rfl) dX1_addVote_51 rfl ?_
                refine w_iald (pc' := 54) kd_129 (by omega) (by omega) dX1_addVote_53 rfl ?_
                refine w_iload_n (pc' := 55) (i := 1) (by rfl) (by rfl) dX1_addVote_54 rfl ?_
                refine w_icmp_ne (pc' := 58) (t := 71) dX1_addVote_55 rfl rfl (fun c_55 => ?_) (fun c_55 => ?_)
                · skip
                  refine v_iinc (pc' := 74) (x := i) (ls' := [gR 125, gI m, gI p, gI b, gI t, gI (i + 1)]) (by omega) (by decide) (by rfl) (by rfl) dX1_addVote_71 rfl ?_
                  refine w_goto (pc' := 38) dX1_addVote_74 rfl ?_
                  exact ih_38 _ (by omega) (i + 1) rfl (by omega) (by intro j a b; by_cases e : j = i; rw [e]; omega; exact hz j a (by omega))
                · skip
                  refine w_aload_n (pc' := 59) (i := 0) (by rfl) (by rfl) dX1_addVote_58 rfl ?_
                  refine w_getS (pc' := 62) (q := 130) fg_X1_24 kd_125 sf_X1_7 gr_125_7 dX1_addVote_59 rfl ?_
                  refine w_iload (pc' := 64) (by rfl) dX1_addVote_62 rfl ?_
                  refine w_iald (pc' := 65) kd_130 (by omega) (by omega) dX1_addVote_64 rfl ?_
                  refine w_iload_n (pc' := 66) (i := 2) (by rfl) (by rfl) dX1_addVote_65 rfl ?_
                  refine w_icmp_ne (pc' := 69) (t := 71) dX1_addVote_66 rfl rfl (fun c_66 => ?_) (fun c_66 => ?_)
                  · skip
                    refine v_iinc (pc' := 74) (x := i) (ls' := [gR 125, gI m, gI p, gI b, gI t, gI (i + 1)]) (by omega) (by decide) (by rfl) (by rfl) dX1_addVote_71 rfl ?_
                    refine w_goto (pc' := 38) dX1_addVote_74 rfl ?_
                    exact ih_38 _ (by omega) (i + 1) rfl (by omega) (by intro j a b; by_cases e : j = i; rw [e]; omega; exact hz j a (by omega))
                  · skip
                    refine w_iconst (pc' := 70) (by decide) dX1_addVote_69 rfl ?_
                    refine v_ireturn rfl dX1_addVote_70 ?_
                    first | (exfalso; omega) | (exfalso; have e : VT σ m p = 0 := anyI_0 (fun j a b => hz j a (by omega)); omega) | exact ⟨rfl, rfl⟩
          exact hl_38 _ 0 rfl (by omega) (by intro j a b; omega)
        · skip
          refine w_iconst (pc' := 34) (by decide) dX1_addVote_33 rfl ?_
          refine v_ireturn rfl dX1_addVote_34 ?_
          first | (exfalso; omega) | (exfalso; have e : VT σ m p = 0 := anyI_0 (fun j a b => hz j a (by omega)); omega) | exact ⟨rfl, rfl⟩
theorem x_vote {σ : gH} (hI : Inv σ) (m p b : Int) (hb : b = 0 ∨ b = 1) : Mt mX11_vote 30 [gR 0, gI m, gI p, gI b] σ (fun v σ' => (((0 ≤ m ∧ m < σ 125 5) ∧ MB σ p ≠ 0 ∧ σ 125 10 < 200 ∧ VT σ m p = 0) ∧ v = gI (σ 125 10) ∧ σ' = gUp (gUp (gUp (gUp (gUp σ 129 (σ 125 10) m) 130 (σ 125 10) p) 131 (σ 125 10) b) 132 (σ 125 10) (σ 0 4)) 125 10 (σ 125 10 + 1)) ∨ (¬ ((0 ≤ m ∧ m < σ 125 5) ∧ MB σ p ≠ 0 ∧ σ 125 10 < 200 ∧ VT σ m p = 0) ∧ v = gI (-1) ∧ σ' = σ)) := by
  refine Mt.walk (ls := [gR 0, gI m, gI p, gI b]) pn_X11 rfl (fun _ _ h => by rcases h with h | h <;> exact absurd h.2.1 (by intro h; cases h)) (Nat.le_of_ble_eq_true rfl) rfl ?_
  have hday := hI.f.day
  unfold S_day at hday
  have hp := hI.f.hp
  have hp0 := hI.f.party.2.1
  have hT := hI.f.tape.2.1
  have hT2 := hI.f.tape.2.2.1
  have f6 := hI.f6
  have hm0 := hI.f.mem.2.1
  have hm1 := hI.f.mem.2.2.1
  have ht0 := hI.f.mat.2.1
  have ht1 := hI.f.mat.2.2.1
  have hv0 := hI.f.vote.2.1
  have hv1 := hI.f.vote.2.2.1
  have he0 := hI.f.ent.2.1
  have he1 := hI.f.ent.2.2.1
  have hmb := MB_01 σ p
  have hvt := VT_01 σ m p
  have hpe := MB_pe hI (p := p)
  have f93 := hI.f93
  have e135 : 0 ≤ p → p < σ 3 2 → σ 135 p = σ 4 p := fun h0 h1 => hI.e135 h0 h1
  refine w_aload_n (pc' := 1) (i := 0) (by rfl) (by rfl) dX11_vote_0 rfl ?_
  refine w_getS (pc' := 4) (q := 125) fg_X11_85 kd_0 sf_X11_13 gr_0_13 dX11_vote_1 rfl ?_
  refine w_iload_n (pc' := 5) (i := 1) (by rfl) (by rfl) dX11_vote_4 rfl ?_
  refine w_iload_n (pc' := 6) (i := 2) (by rfl) (by rfl) dX11_vote_5 rfl ?_
  refine w_iload_n (pc' := 7) (i := 3) (by rfl) (by rfl) dX11_vote_6 rfl ?_
  refine w_aload_n (pc' := 8) (i := 0) (by rfl) (by rfl) dX11_vote_7 rfl ?_
  refine v_getI (pc' := 11) (ji := 4) rfl fg_X11_96 kd_0 dX11_vote_8 rfl ?_
  by_cases c_11 : (0 ≤ m ∧ m < σ 125 5) ∧ MB σ p ≠ 0 ∧ σ 125 10 < 200 ∧ VT σ m p = 0
  · skip
    refine v_callVE (pc' := 14) (st' := [gI (σ 125 10)]) (d' := 1) (av := [gI m, gI p, gI b, gI (σ 0 4)]) mi_mX1_addVote lk_X11_251 rfl ci_X1 kd_125 rfl (Nat.le_of_ble_eq_true rfl) (Nat.le_of_ble_eq_true rfl) dX11_vote_11 rfl rfl (k_addVoteT σ m p b (σ 0 4) ⟨by omega, by omega⟩ (by omega) (by omega) hb c_11) ?_
    show Wp _ _ _ (gUp (gUp (gUp (gUp (gUp σ 129 (σ 125 10) m) 130 (σ 125 10) p) 131 (σ 125 10) b) 132 (σ 125 10) (σ 0 4)) 125 10 (σ 125 10 + 1)) _ _ [gI (σ 125 10)]
    refine v_ireturn rfl dX11_vote_14 ?_
    first
      | (exfalso; omega)
      | exact .inl ⟨by omega, (by first | rfl | exact congrArg gI (by omega) | exact congrArg gI (gb_t (by omega)) | exact congrArg gI (gb_f (by omega)) | (refine congrArg gI ?_; (repeat' split) <;> omega)), rfl⟩
      | exact .inr ⟨by omega, (by first | rfl | exact congrArg gI (by omega) | exact congrArg gI (gb_t (by omega)) | exact congrArg gI (gb_f (by omega)) | (refine congrArg gI ?_; (repeat' split) <;> omega)), rfl⟩
  · skip
    refine v_callVE (pc' := 14) (st' := [gI (-1)]) (d' := 1) (av := [gI m, gI p, gI b, gI (σ 0 4)]) mi_mX1_addVote lk_X11_251 rfl ci_X1 kd_125 rfl (Nat.le_of_ble_eq_true rfl) (Nat.le_of_ble_eq_true rfl) dX11_vote_11 rfl rfl (k_addVoteF σ m p b (σ 0 4) ⟨by omega, by omega⟩ (by omega) (by omega) hb c_11) ?_
    show Wp _ _ _ σ _ _ [gI (-1)]
    refine v_ireturn rfl dX11_vote_14 ?_
    first
      | (exfalso; omega)
      | exact .inl ⟨by omega, (by first | rfl | exact congrArg gI (by omega) | exact congrArg gI (gb_t (by omega)) | exact congrArg gI (gb_f (by omega)) | (refine congrArg gI ?_; (repeat' split) <;> omega)), rfl⟩
      | exact .inr ⟨by omega, (by first | rfl | exact congrArg gI (by omega) | exact congrArg gI (gb_t (by omega)) | exact congrArg gI (gb_f (by omega)) | (refine congrArg gI ?_; (repeat' split) <;> omega)), rfl⟩
theorem m_voteT {σ : gH} (hI : Inv σ) (m p b : Int) (hb : b = 0 ∨ b = 1) (hP : (0 ≤ m ∧ m < σ 125 5) ∧ MB σ p ≠ 0 ∧ σ 125 10 < 200 ∧ VT σ m p = 0) : Mt mX12_vote 30 [gR 133, gI m, gI p, gI b] (gUp (gUp (gUp (gUp (gUp σ 129 (σ 125 10) m) 130 (σ 125 10) p) 131 (σ 125 10) b) 132 (σ 125 10) (σ 0 4)) 125 10 (σ 125 10 + 1)) (rE (gI (σ 125 10)) (gUp (gUp (gUp (gUp (gUp (gUp (gUp (gUp (gUp (gUp (gUp σ 129 (σ 125 10) m) 130 (σ 125 10) p) 131 (σ 125 10) b) 132 (σ 125 10) (σ 0 4)) 125 10 (σ 125 10 + 1)) 133 0 0) 203 (σ 125 10) m) 204 (σ 125 10) p) 206 (σ 125 10) b) 205 (σ 125 10) (σ 0 4)) 133 110 ((σ 125 10) + 1))) := by
  refine Mt.walk (ls := [gR 133, gI m, gI p, gI b, gX 1]) pn_X12 rfl (fun _ _ h => by cases h.1) (Nat.le_of_ble_eq_true rfl) rfl ?_
  have hday := hI.f.day
  unfold S_day at hday
  have hp := hI.f.hp
  have hp0 := hI.f.party.2.1
  have hT := hI.f.tape.2.1
  have hT2 := hI.f.tape.2.2.1
  have f6 := hI.f6
  have hm0 := hI.f.mem.2.1
  have hm1 := hI.f.mem.2.2.1
  have ht0 := hI.f.mat.2.1
  have ht1 := hI.f.mat.2.2.1
  have hv0 := hI.f.vote.2.1
  have hv1 := hI.f.vote.2.2.1
  have he0 := hI.f.ent.2.1
  have he1 := hI.f.ent.2.2.1
  have hmb := MB_01 σ p
  have hvt := VT_01 σ m p
  have hpe := MB_pe hI (p := p)
  have f93 := hI.f93
  have e135 : 0 ≤ p → p < σ 3 2 → σ 135 p = σ 4 p := fun h0 h1 => hI.e135 h0 h1
  refine w_aload_n (pc' := 1) (i := 0) (by rfl) (by rfl) dX12_vote_0 rfl ?_
  refine w_iconst (pc' := 2) (by decide) dX12_vote_1 rfl ?_
  refine v_putI (pc' := 5) (ji := 0) rfl fp_X12_244 kd_133 sf_X12_0 dX12_vote_2 rfl ?_
  refine w_aload_n (pc' := 6) (i := 0) (by rfl) (by rfl) dX12_vote_5 rfl ?_
  refine w_iload_n (pc' := 7) (i := 1) (by rfl) (by rfl) dX12_vote_6 rfl ?_
  refine v_callVE (pc' := 10) (st' := [gI (gb (0 ≤ m ∧ m < σ 133 93))]) (d' := 0) (av := [gI m]) mi_mX12_isMatter lk_X12_555 rfl ci_X12 kd_133 rfl (Nat.le_of_ble_eq_true rfl) (Nat.le_of_ble_eq_true rfl) dX12_vote_7 rfl rfl (mo_isMatter (gUp (gUp (gUp (gUp (gUp (gUp σ 129 (σ 125 10) m) 130 (σ 125 10) p) 131 (σ 125 10) b) 132 (σ 125 10) (σ 0 4)) 125 10 (σ 125 10 + 1)) 133 0 0) m) ?_
  refine v_if_eqB (pc' := 13) (t := 39) dX12_vote_10 rfl rfl (fun c_10 => ?_) (fun c_10 => ?_)
  · skip
    refine w_iconst (pc' := 40) (by decide) dX12_vote_39 rfl ?_
    refine v_ireturn rfl dX12_vote_40 ?_
    first
      | (exfalso; omega)
      | (exfalso; have e : VT σ m p = 1 := anyI_1 h0 (by omega) ⟨by omega, by omega⟩; omega)
      | (exfalso; have e : VT σ m p = 0 := anyI_0 (fun j a b => hz j a (by omega)); omega)
      | exact ⟨(by first | rfl | exact congrArg gI (by omega) | exact congrArg gI (gb_t (by omega)) | exact congrArg gI (gb_f (by omega)) | (refine congrArg gI ?_; (repeat' split) <;> omega)), rfl⟩
  · skip
    refine w_aload_n (pc' := 14) (i := 0) (by rfl) (by rfl) dX12_vote_13 rfl ?_
    refine w_iload_n (pc' := 15) (i := 2) (by rfl) (by rfl) dX12_vote_14 rfl ?_
    refine v_callVE (pc' := 18) (st' := [gI (gb ((0 ≤ p ∧ p < (σ 133 6)) ∧ (σ 135 p) = 0))]) (d' := 1) (av := [gI p]) mi_mX12_isPerson lk_X12_299 rfl ci_X12 kd_133 rfl (Nat.le_of_ble_eq_true rfl) (Nat.le_of_ble_eq_true rfl) dX12_vote_15 rfl rfl (mo_isPerson (gUp (gUp (gUp (gUp (gUp (gUp σ 129 (σ 125 10) m) 130 (σ 125 10) p) 131 (σ 125 10) b) 132 (σ 125 10) (σ 0 4)) 125 10 (σ 125 10 + 1)) 133 0 0) (show σ 133 6 ≤ 60 by omega) p) ?_
    refine v_if_eqB (pc' := 21) (t := 39) dX12_vote_18 rfl rfl (fun c_18 => ?_) (fun c_18 => ?_)
    · skip
      refine w_iconst (pc' := 40) (by decide) dX12_vote_39 rfl ?_
      refine v_ireturn rfl dX12_vote_40 ?_
      first
        | (exfalso; omega)
        | (exfalso; have e : VT σ m p = 1 := anyI_1 h0 (by omega) ⟨by omega, by omega⟩; omega)
        | (exfalso; have e : VT σ m p = 0 := anyI_0 (fun j a b => hz j a (by omega)); omega)
        | exact ⟨(by first | rfl | exact congrArg gI (by omega) | exact congrArg gI (gb_t (by omega)) | exact congrArg gI (gb_f (by omega)) | (refine congrArg gI ?_; (repeat' split) <;> omega)), rfl⟩
    · skip
      refine w_aload_n (pc' := 22) (i := 0) (by rfl) (by rfl) dX12_vote_21 rfl ?_
      refine w_iload_n (pc' := 23) (i := 2) (by rfl) (by rfl) dX12_vote_22 rfl ?_
      refine v_callVE (pc' := 26) (st' := [gI (MB σ p)]) (d' := 0) (av := [gI p]) mi_mX12_isMember lk_X12_546 rfl ci_X12 kd_133 rfl (Nat.le_of_ble_eq_true rfl) (Nat.le_of_ble_eq_true rfl) dX12_vote_23 rfl rfl (q_isMember (H := gUp (gUp (gUp (gUp (gUp (gUp σ 129 (σ 125 10) m) 130 (σ 125 10) p) 131 (σ 125 10) b) 132 (σ 125 10) (σ 0 4)) 125 10 (σ 125 10 + 1)) 133 0 0) hI rfl rfl p) ?_
      refine w_if_eq (pc' := 29) (t := 39) dX12_vote_26 rfl rfl (fun c_26 => ?_) (fun c_26 => ?_)
      · skip
        refine w_iconst (pc' := 40) (by decide) dX12_vote_39 rfl ?_
        refine v_ireturn rfl dX12_vote_40 ?_
        first
          | (exfalso; omega)
          | (exfalso; have e : VT σ m p = 1 := anyI_1 h0 (by omega) ⟨by omega, by omega⟩; omega)
          | (exfalso; have e : VT σ m p = 0 := anyI_0 (fun j a b => hz j a (by omega)); omega)
          | exact ⟨(by first | rfl | exact congrArg gI (by omega) | exact congrArg gI (gb_t (by omega)) | exact congrArg gI (gb_f (by omega)) | (refine congrArg gI ?_; (repeat' split) <;> omega)), rfl⟩
      · skip
        refine w_aload_n (pc' := 30) (i := 0) (by rfl) (by rfl) dX12_vote_29 rfl ?_
        refine v_getI (pc' := 33) (ji := 110) rfl fg_X12_583 kd_133 dX12_vote_30 rfl ?_
        show Wp _ _ _ _ _ _ [gI (σ 133 110)]
        rw [hI.f110]
        refine w_sipush (pc' := 36) (by decide) (by decide) dX12_vote_33 rfl ?_
        refine w_icmp_ne (pc' := 39) (t := 41) dX12_vote_36 rfl rfl (fun c_36 => ?_) (fun c_36 => ?_)
        · skip
          refine w_iconst (pc' := 42) (by decide) dX12_vote_41 rfl ?_
          refine w_istore (pc' := 44) (ls' := [gR 133, gI m, gI p, gI b, gI 0]) (by decide) (by rfl) dX12_vote_42 rfl ?_
          have hl_44 : ∀ (mm : Nat) (i : Int), (σ 125 10 - i).toNat = mm → (0 ≤ i) → (∀ j, 0 ≤ j → j < i → ¬ (σ 129 j = m ∧ σ 130 j = p)) → Wp mX12_vote 30 (rE (gI (σ 125 10)) (gUp (gUp (gUp (gUp (gUp (gUp (gUp (gUp (gUp (gUp (gUp σ 129 (σ 125 10) m) 130 (σ 125 10) p) 131 (σ 125 10) b) 132 (σ 125 10) (σ 0 4)) 125 10 (σ 125 10 + 1)) 133 0 0) 203 (σ 125 10) m) 204 (σ 125 10) p) 206 (σ 125 10) b) 205 (σ 125 10) (σ 0 4)) 133 110 ((σ 125 10) + 1))) (gUp (gUp (gUp (gUp (gUp (gUp σ 129 (σ 125 10) m) 130 (σ 125 10) p) 131 (σ 125 10) b) 132 (σ 125 10) (σ 0 4)) 125 10 (σ 125 10 + 1)) 133 0 0) 44 [gR 133, gI m, gI p, gI b, gI i] [] := by
            intro m_44
            induction m_44 using Nat.strongRecOn with
            | _ m_44 ih_44 =>
              intro i hmeas_44 h0 hz
              refine w_iload (pc' := 46) (by rfl) dX12_vote_44 rfl ?_
              refine w_aload_n (pc' := 47) (i := 0) (by rfl) (by rfl) dX12_vote_46 rfl ?_
              refine v_getI (pc' := 50) (ji := 110) rfl fg_X12_583 kd_133 dX12_vote_47 rfl ?_
              show Wp _ _ _ _ _ _ [gI (σ 133 110), gI i]
              rw [hI.f110]
              refine w_icmp_ge (pc' := 53) (t := 83) dX12_vote_50 rfl rfl (fun c_50 => ?_) (fun c_50 => ?_)
              · skip
                refine w_aload_n (pc' := 84) (i := 0) (by rfl) (by rfl) dX12_vote_83 rfl ?_
                refine w_getS (pc' := 87) (q := 203) fg_X12_229 kd_133 sf_X12_106 gr_133_106 dX12_vote_84 rfl ?_
                refine w_aload_n (pc' := 88) (i := 0) (by rfl) (by rfl) dX12_vote_87 rfl ?_
                refine v_getI (pc' := 91) (ji := 110) rfl fg_X12_583 kd_133 dX12_vote_88 rfl ?_
                show Wp _ _ _ _ _ _ [gI (σ 133 110), gR 203]
                rw [hI.f110]
                refine w_iload_n (pc' := 92) (i := 1) (by rfl) (by rfl) dX12_vote_91 rfl ?_
                refine w_iast (pc' := 93) kd_203 (by omega) (by omega) dX12_vote_92 rfl ?_
                refine w_aload_n (pc' := 94) (i := 0) (by rfl) (by rfl) dX12_vote_93 rfl ?_
                refine w_getS (pc' := 97) (q := 204) fg_X12_232 kd_133 sf_X12_107 gr_133_107 dX12_vote_94 rfl ?_
                refine w_aload_n (pc' := 98) (i := 0) (by rfl) (by rfl) dX12_vote_97 rfl ?_
                refine v_getI (pc' := 101) (ji := 110) rfl fg_X12_583 kd_133 dX12_vote_98 rfl ?_
                show Wp _ _ _ _ _ _ [gI (σ 133 110), gR 204]
                rw [hI.f110]
                refine w_iload_n (pc' := 102) (i := 2) (by rfl) (by rfl) dX12_vote_101 rfl ?_
                refine w_iast (pc' := 103) kd_204 (by omega) (by omega) dX12_vote_102 rfl ?_
                refine w_aload_n (pc' := 104) (i := 0) (by rfl) (by rfl) dX12_vote_103 rfl ?_
                refine w_getS (pc' := 107) (q := 206) fg_X12_238 kd_133 sf_X12_109 gr_133_109 dX12_vote_104 rfl ?_
                refine w_aload_n (pc' := 108) (i := 0) (by rfl) (by rfl) dX12_vote_107 rfl ?_
                refine v_getI (pc' := 111) (ji := 110) rfl fg_X12_583 kd_133 dX12_vote_108 rfl ?_
                show Wp _ _ _ _ _ _ [gI (σ 133 110), gR 206]
                rw [hI.f110]
                refine w_iload_n (pc' := 112) (i := 3) (by rfl) (by rfl) dX12_vote_111 rfl ?_
                refine w_zast (pc' := 113) kd_206 (by exact hb) (by omega) (by omega) dX12_vote_112 rfl ?_
                refine w_aload_n (pc' := 114) (i := 0) (by rfl) (by rfl) dX12_vote_113 rfl ?_
                refine w_getS (pc' := 117) (q := 205) fg_X12_235 kd_133 sf_X12_108 gr_133_108 dX12_vote_114 rfl ?_
                refine w_aload_n (pc' := 118) (i := 0) (by rfl) (by rfl) dX12_vote_117 rfl ?_
                refine v_getI (pc' := 121) (ji := 110) rfl fg_X12_583 kd_133 dX12_vote_118 rfl ?_
                show Wp _ _ _ _ _ _ [gI (σ 133 110), gR 205]
                rw [hI.f110]
                refine w_aload_n (pc' := 122) (i := 0) (by rfl) (by rfl) dX12_vote_121 rfl ?_
                refine v_getI (pc' := 125) (ji := 3) rfl fg_X12_258 kd_133 dX12_vote_122 rfl ?_
                show Wp _ _ _ _ _ _ [gI (σ 133 3), gI (σ 125 10), gR 205]
                rw [hI.f3]
                refine w_iast (pc' := 126) kd_205 (by omega) (by omega) dX12_vote_125 rfl ?_
                refine w_aload_n (pc' := 127) (i := 0) (by rfl) (by rfl) dX12_vote_126 rfl ?_
                refine w_dup (pc' := 128) dX12_vote_127 rfl ?_
                refine v_getI (pc' := 131) (ji := 110) rfl fg_X12_583 kd_133 dX12_vote_128 rfl ?_
                show Wp _ _ _ _ _ _ [gI (σ 133 110), gR 133]
                rw [hI.f110]
                refine w_iconst (pc' := 132) (by decide) dX12_vote_131 rfl ?_
                refine v_iadd (pc' := 133) (by omega) dX12_vote_132 rfl ?_
                refine v_putI (pc' := 136) (ji := 110) rfl fp_X12_583 kd_133 sf_X12_110 dX12_vote_133 rfl ?_
                refine w_aload_n (pc' := 137) (i := 0) (by rfl) (by rfl) dX12_vote_136 rfl ?_
                refine v_getI (pc' := 140) (ji := 110) rfl fg_X12_583 kd_133 dX12_vote_137 rfl ?_
                show Wp _ _ _ _ _ _ [gI ((σ 125 10) + 1)]
                refine w_iconst (pc' := 141) (by decide) dX12_vote_140 rfl ?_
                refine v_isub (pc' := 142) (by omega) dX12_vote_141 rfl ?_
                refine v_ireturn rfl dX12_vote_142 ?_
                first
                  | (exfalso; omega)
                  | (exfalso; have e : VT σ m p = 1 := anyI_1 h0 (by omega) ⟨by omega, by omega⟩; omega)
                  | (exfalso; have e : VT σ m p = 0 := anyI_0 (fun j a b => hz j a (by omega)); omega)
                  | exact ⟨(by first | rfl | exact congrArg gI (by omega) | exact congrArg gI (gb_t (by omega)) | exact congrArg gI (gb_f (by omega)) | (refine congrArg gI ?_; (repeat' split) <;> omega)), rfl⟩
              · skip
                refine w_aload_n (pc' := 54) (i := 0) (by rfl) (by rfl) dX12_vote_53 rfl ?_
                refine w_getS (pc' := 57) (q := 203) fg_X12_229 kd_133 sf_X12_106 gr_133_106 dX12_vote_54 rfl ?_
                refine w_iload (pc' := 59) (by rfl) dX12_vote_57 rfl ?_
                refine w_iald (pc' := 60) kd_203 (by omega) (by omega) dX12_vote_59 rfl ?_
                show Wp _ _ _ _ _ _ [gI (σ 203 i)]
                rw [hI.e203 (i := i) (by omega) (by omega)]
                refine w_iload_n (pc' := 61) (i := 1) (by rfl) (by rfl) dX12_vote_60 rfl ?_
                refine w_icmp_ne (pc' := 64) (t := 77) dX12_vote_61 rfl rfl (fun c_61 => ?_) (fun c_61 => ?_)
                · skip
                  refine v_iinc (pc' := 80) (x := i) (ls' := [gR 133, gI m, gI p, gI b, gI (i + 1)]) (by omega) (by decide) (by rfl) (by rfl) dX12_vote_77 rfl ?_
                  refine w_goto (pc' := 44) dX12_vote_80 rfl ?_
                  exact ih_44 _ (by omega) (i + 1) rfl (by omega) (by intro j a b; by_cases e : j = i; rw [e]; omega; exact hz j a (by omega))
                · skip
                  refine w_aload_n (pc' := 65) (i := 0) (by rfl) (by rfl) dX12_vote_64 rfl ?_
                  refine w_getS (pc' := 68) (q := 204) fg_X12_232 kd_133 sf_X12_107 gr_133_107 dX12_vote_65 rfl ?_
                  refine w_iload (pc' := 70) (by rfl) dX12_vote_68 rfl ?_
                  refine w_iald (pc' := 71) kd_204 (by omega) (by omega) dX12_vote_70 rfl ?_
                  show Wp _ _ _ _ _ _ [gI (σ 204 i)]
                  rw [hI.e204 (i := i) (by omega) (by omega)]
                  refine w_iload_n (pc' := 72) (i := 2) (by rfl) (by rfl) dX12_vote_71 rfl ?_
                  refine w_icmp_ne (pc' := 75) (t := 77) dX12_vote_72 rfl rfl (fun c_72 => ?_) (fun c_72 => ?_)
                  · skip
                    refine v_iinc (pc' := 80) (x := i) (ls' := [gR 133, gI m, gI p, gI b, gI (i + 1)]) (by omega) (by decide) (by rfl) (by rfl) dX12_vote_77 rfl ?_
                    refine w_goto (pc' := 44) dX12_vote_80 rfl ?_
                    exact ih_44 _ (by omega) (i + 1) rfl (by omega) (by intro j a b; by_cases e : j = i; rw [e]; omega; exact hz j a (by omega))
                  · skip
                    refine w_iconst (pc' := 76) (by decide) dX12_vote_75 rfl ?_
                    refine v_ireturn rfl dX12_vote_76 ?_
                    first
                      | (exfalso; omega)
                      | (exfalso; have e : VT σ m p = 1 := anyI_1 h0 (by omega) ⟨by omega, by omega⟩; omega)
                      | (exfalso; have e : VT σ m p = 0 := anyI_0 (fun j a b => hz j a (by omega)); omega)
                      | exact ⟨(by first | rfl | exact congrArg gI (by omega) | exact congrArg gI (gb_t (by omega)) | exact congrArg gI (gb_f (by omega)) | (refine congrArg gI ?_; (repeat' split) <;> omega)), rfl⟩
          exact hl_44 _ 0 rfl (by omega) (by intro j a b; omega)
        · skip
          refine w_iconst (pc' := 40) (by decide) dX12_vote_39 rfl ?_
          refine v_ireturn rfl dX12_vote_40 ?_
          first
            | (exfalso; omega)
            | (exfalso; have e : VT σ m p = 1 := anyI_1 h0 (by omega) ⟨by omega, by omega⟩; omega)
            | (exfalso; have e : VT σ m p = 0 := anyI_0 (fun j a b => hz j a (by omega)); omega)
            | exact ⟨(by first | rfl | exact congrArg gI (by omega) | exact congrArg gI (gb_t (by omega)) | exact congrArg gI (gb_f (by omega)) | (refine congrArg gI ?_; (repeat' split) <;> omega)), rfl⟩
theorem m_voteF {σ : gH} (hI : Inv σ) (m p b : Int) (hb : b = 0 ∨ b = 1) (hP : ¬ ((0 ≤ m ∧ m < σ 125 5) ∧ MB σ p ≠ 0 ∧ σ 125 10 < 200 ∧ VT σ m p = 0)) : Mt mX12_vote 30 [gR 133, gI m, gI p, gI b] σ (rE (gI (-1)) (gUp σ 133 0 0)) := by
  refine Mt.walk (ls := [gR 133, gI m, gI p, gI b, gX 1]) pn_X12 rfl (fun _ _ h => by cases h.1) (Nat.le_of_ble_eq_true rfl) rfl ?_
  have hday := hI.f.day
  unfold S_day at hday
  have hp := hI.f.hp
  have hp0 := hI.f.party.2.1
  have hT := hI.f.tape.2.1
  have hT2 := hI.f.tape.2.2.1
  have f6 := hI.f6
  have hm0 := hI.f.mem.2.1
  have hm1 := hI.f.mem.2.2.1
  have ht0 := hI.f.mat.2.1
  have ht1 := hI.f.mat.2.2.1
  have hv0 := hI.f.vote.2.1
  have hv1 := hI.f.vote.2.2.1
  have he0 := hI.f.ent.2.1
  have he1 := hI.f.ent.2.2.1
  have hmb := MB_01 σ p
  have hvt := VT_01 σ m p
  have hpe := MB_pe hI (p := p)
  have f93 := hI.f93
  have e135 : 0 ≤ p → p < σ 3 2 → σ 135 p = σ 4 p := fun h0 h1 => hI.e135 h0 h1
  refine w_aload_n (pc' := 1) (i := 0) (by rfl) (by rfl) dX12_vote_0 rfl ?_
  refine w_iconst (pc' := 2) (by decide) dX12_vote_1 rfl ?_
  refine v_putI (pc' := 5) (ji := 0) rfl fp_X12_244 kd_133 sf_X12_0 dX12_vote_2 rfl ?_
  refine w_aload_n (pc' := 6) (i := 0) (by rfl) (by rfl) dX12_vote_5 rfl ?_
  refine w_iload_n (pc' := 7) (i := 1) (by rfl) (by rfl) dX12_vote_6 rfl ?_
  refine v_callVE (pc' := 10) (st' := [gI (gb (0 ≤ m ∧ m < σ 133 93))]) (d' := 0) (av := [gI m]) mi_mX12_isMatter lk_X12_555 rfl ci_X12 kd_133 rfl (Nat.le_of_ble_eq_true rfl) (Nat.le_of_ble_eq_true rfl) dX12_vote_7 rfl rfl (mo_isMatter (gUp σ 133 0 0) m) ?_
  refine v_if_eqB (pc' := 13) (t := 39) dX12_vote_10 rfl rfl (fun c_10 => ?_) (fun c_10 => ?_)
  · skip
    refine w_iconst (pc' := 40) (by decide) dX12_vote_39 rfl ?_
    refine v_ireturn rfl dX12_vote_40 ?_
    first
      | (exfalso; omega)
      | (exfalso; have e : VT σ m p = 1 := anyI_1 h0 (by omega) ⟨by omega, by omega⟩; omega)
      | (exfalso; have e : VT σ m p = 0 := anyI_0 (fun j a b => hz j a (by omega)); omega)
      | exact ⟨(by first | rfl | exact congrArg gI (by omega) | exact congrArg gI (gb_t (by omega)) | exact congrArg gI (gb_f (by omega)) | (refine congrArg gI ?_; (repeat' split) <;> omega)), rfl⟩
  · skip
    refine w_aload_n (pc' := 14) (i := 0) (by rfl) (by rfl) dX12_vote_13 rfl ?_
    refine w_iload_n (pc' := 15) (i := 2) (by rfl) (by rfl) dX12_vote_14 rfl ?_
    refine v_callVE (pc' := 18) (st' := [gI (gb ((0 ≤ p ∧ p < (σ 133 6)) ∧ (σ 135 p) = 0))]) (d' := 1) (av := [gI p]) mi_mX12_isPerson lk_X12_299 rfl ci_X12 kd_133 rfl (Nat.le_of_ble_eq_true rfl) (Nat.le_of_ble_eq_true rfl) dX12_vote_15 rfl rfl (mo_isPerson (gUp σ 133 0 0) (show σ 133 6 ≤ 60 by omega) p) ?_
    refine v_if_eqB (pc' := 21) (t := 39) dX12_vote_18 rfl rfl (fun c_18 => ?_) (fun c_18 => ?_)
    · skip
      refine w_iconst (pc' := 40) (by decide) dX12_vote_39 rfl ?_
      refine v_ireturn rfl dX12_vote_40 ?_
      first
        | (exfalso; omega)
        | (exfalso; have e : VT σ m p = 1 := anyI_1 h0 (by omega) ⟨by omega, by omega⟩; omega)
        | (exfalso; have e : VT σ m p = 0 := anyI_0 (fun j a b => hz j a (by omega)); omega)
        | exact ⟨(by first | rfl | exact congrArg gI (by omega) | exact congrArg gI (gb_t (by omega)) | exact congrArg gI (gb_f (by omega)) | (refine congrArg gI ?_; (repeat' split) <;> omega)), rfl⟩
    · skip
      refine w_aload_n (pc' := 22) (i := 0) (by rfl) (by rfl) dX12_vote_21 rfl ?_
      refine w_iload_n (pc' := 23) (i := 2) (by rfl) (by rfl) dX12_vote_22 rfl ?_
      refine v_callVE (pc' := 26) (st' := [gI (MB σ p)]) (d' := 0) (av := [gI p]) mi_mX12_isMember lk_X12_546 rfl ci_X12 kd_133 rfl (Nat.le_of_ble_eq_true rfl) (Nat.le_of_ble_eq_true rfl) dX12_vote_23 rfl rfl (q_isMember (H := gUp σ 133 0 0) hI rfl rfl p) ?_
      refine w_if_eq (pc' := 29) (t := 39) dX12_vote_26 rfl rfl (fun c_26 => ?_) (fun c_26 => ?_)
      · skip
        refine w_iconst (pc' := 40) (by decide) dX12_vote_39 rfl ?_
        refine v_ireturn rfl dX12_vote_40 ?_
        first
          | (exfalso; omega)
          | (exfalso; have e : VT σ m p = 1 := anyI_1 h0 (by omega) ⟨by omega, by omega⟩; omega)
          | (exfalso; have e : VT σ m p = 0 := anyI_0 (fun j a b => hz j a (by omega)); omega)
          | exact ⟨(by first | rfl | exact congrArg gI (by omega) | exact congrArg gI (gb_t (by omega)) | exact congrArg gI (gb_f (by omega)) | (refine congrArg gI ?_; (repeat' split) <;> omega)), rfl⟩
      · skip
        refine w_aload_n (pc' := 30) (i := 0) (by rfl) (by rfl) dX12_vote_29 rfl ?_
        refine v_getI (pc' := 33) (ji := 110) rfl fg_X12_583 kd_133 dX12_vote_30 rfl ?_
        show Wp _ _ _ _ _ _ [gI (σ 133 110)]
        rw [hI.f110]
        refine w_sipush (pc' := 36) (by decide) (by decide) dX12_vote_33 rfl ?_
        refine w_icmp_ne (pc' := 39) (t := 41) dX12_vote_36 rfl rfl (fun c_36 => ?_) (fun c_36 => ?_)
        · skip
          refine w_iconst (pc' := 42) (by decide) dX12_vote_41 rfl ?_
          refine w_istore (pc' := 44) (ls' := [gR 133, gI m, gI p, gI b, gI 0]) (by decide) (by rfl) dX12_vote_42 rfl ?_
          have hl_44 : ∀ (mm : Nat) (i : Int), (σ 125 10 - i).toNat = mm → (0 ≤ i) → (∀ j, 0 ≤ j → j < i → ¬ (σ 129 j = m ∧ σ 130 j = p)) → Wp mX12_vote 30 (rE (gI (-1)) (gUp σ 133 0 0)) (gUp σ 133 0 0) 44 [gR 133, gI m, gI p, gI b, gI i] [] := by
            intro m_44
            induction m_44 using Nat.strongRecOn with
            | _ m_44 ih_44 =>
              intro i hmeas_44 h0 hz
              refine w_iload (pc' := 46) (by rfl) dX12_vote_44 rfl ?_
              refine w_aload_n (pc' := 47) (i := 0) (by rfl) (by rfl) dX12_vote_46 rfl ?_
              refine v_getI (pc' := 50) (ji := 110) rfl fg_X12_583 kd_133 dX12_vote_47 rfl ?_
              show Wp _ _ _ _ _ _ [gI (σ 133 110), gI i]
              rw [hI.f110]
              refine w_icmp_ge (pc' := 53) (t := 83) dX12_vote_50 rfl rfl (fun c_50 => ?_) (fun c_50 => ?_)
              · skip
                refine w_aload_n (pc' := 84) (i := 0) (by rfl) (by rfl) dX12_vote_83 rfl ?_
                refine w_getS (pc' := 87) (q := 203) fg_X12_229 kd_133 sf_X12_106 gr_133_106 dX12_vote_84 rfl ?_
                refine w_aload_n (pc' := 88) (i := 0) (by rfl) (by rfl) dX12_vote_87 rfl ?_
                refine v_getI (pc' := 91) (ji := 110) rfl fg_X12_583 kd_133 dX12_vote_88 rfl ?_
                show Wp _ _ _ _ _ _ [gI (σ 133 110), gR 203]
                rw [hI.f110]
                refine w_iload_n (pc' := 92) (i := 1) (by rfl) (by rfl) dX12_vote_91 rfl ?_
                refine w_iast (pc' := 93) kd_203 (by omega) (by omega) dX12_vote_92 rfl ?_
                refine w_aload_n (pc' := 94) (i := 0) (by rfl) (by rfl) dX12_vote_93 rfl ?_
                refine w_getS (pc' := 97) (q := 204) fg_X12_232 kd_133 sf_X12_107 gr_133_107 dX12_vote_94 rfl ?_
                refine w_aload_n (pc' := 98) (i := 0) (by rfl) (by rfl) dX12_vote_97 rfl ?_
                refine v_getI (pc' := 101) (ji := 110) rfl fg_X12_583 kd_133 dX12_vote_98 rfl ?_
                show Wp _ _ _ _ _ _ [gI (σ 133 110), gR 204]
                rw [hI.f110]
                refine w_iload_n (pc' := 102) (i := 2) (by rfl) (by rfl) dX12_vote_101 rfl ?_
                refine w_iast (pc' := 103) kd_204 (by omega) (by omega) dX12_vote_102 rfl ?_
                refine w_aload_n (pc' := 104) (i := 0) (by rfl) (by rfl) dX12_vote_103 rfl ?_
                refine w_getS (pc' := 107) (q := 206) fg_X12_238 kd_133 sf_X12_109 gr_133_109 dX12_vote_104 rfl ?_
                refine w_aload_n (pc' := 108) (i := 0) (by rfl) (by rfl) dX12_vote_107 rfl ?_
                refine v_getI (pc' := 111) (ji := 110) rfl fg_X12_583 kd_133 dX12_vote_108 rfl ?_
                show Wp _ _ _ _ _ _ [gI (σ 133 110), gR 206]
                rw [hI.f110]
                refine w_iload_n (pc' := 112) (i := 3) (by rfl) (by rfl) dX12_vote_111 rfl ?_
                refine w_zast (pc' := 113) kd_206 (by exact hb) (by omega) (by omega) dX12_vote_112 rfl ?_
                refine w_aload_n (pc' := 114) (i := 0) (by rfl) (by rfl) dX12_vote_113 rfl ?_
                refine w_getS (pc' := 117) (q := 205) fg_X12_235 kd_133 sf_X12_108 gr_133_108 dX12_vote_114 rfl ?_
                refine w_aload_n (pc' := 118) (i := 0) (by rfl) (by rfl) dX12_vote_117 rfl ?_
                refine v_getI (pc' := 121) (ji := 110) rfl fg_X12_583 kd_133 dX12_vote_118 rfl ?_
                show Wp _ _ _ _ _ _ [gI (σ 133 110), gR 205]
                rw [hI.f110]
                refine w_aload_n (pc' := 122) (i := 0) (by rfl) (by rfl) dX12_vote_121 rfl ?_
                refine v_getI (pc' := 125) (ji := 3) rfl fg_X12_258 kd_133 dX12_vote_122 rfl ?_
                show Wp _ _ _ _ _ _ [gI (σ 133 3), gI (σ 125 10), gR 205]
                rw [hI.f3]
                refine w_iast (pc' := 126) kd_205 (by omega) (by omega) dX12_vote_125 rfl ?_
                refine w_aload_n (pc' := 127) (i := 0) (by rfl) (by rfl) dX12_vote_126 rfl ?_
                refine w_dup (pc' := 128) dX12_vote_127 rfl ?_
                refine v_getI (pc' := 131) (ji := 110) rfl fg_X12_583 kd_133 dX12_vote_128 rfl ?_
                show Wp _ _ _ _ _ _ [gI (σ 133 110), gR 133]
                rw [hI.f110]
                refine w_iconst (pc' := 132) (by decide) dX12_vote_131 rfl ?_
                refine v_iadd (pc' := 133) (by omega) dX12_vote_132 rfl ?_
                refine v_putI (pc' := 136) (ji := 110) rfl fp_X12_583 kd_133 sf_X12_110 dX12_vote_133 rfl ?_
                refine w_aload_n (pc' := 137) (i := 0) (by rfl) (by rfl) dX12_vote_136 rfl ?_
                refine v_getI (pc' := 140) (ji := 110) rfl fg_X12_583 kd_133 dX12_vote_137 rfl ?_
                show Wp _ _ _ _ _ _ [gI ((σ 125 10) + 1)]
                refine w_iconst (pc' := 141) (by decide) dX12_vote_140 rfl ?_
                refine v_isub (pc' := 142) (by omega) dX12_vote_141 rfl ?_
                refine v_ireturn rfl dX12_vote_142 ?_
                first
                  | (exfalso; omega)
                  | (exfalso; have e : VT σ m p = 1 := anyI_1 h0 (by omega) ⟨by omega, by omega⟩; omega)
                  | (exfalso; have e : VT σ m p = 0 := anyI_0 (fun j a b => hz j a (by omega)); omega)
                  | exact ⟨(by first | rfl | exact congrArg gI (by omega) | exact congrArg gI (gb_t (by omega)) | exact congrArg gI (gb_f (by omega)) | (refine congrArg gI ?_; (repeat' split) <;> omega)), rfl⟩
              · skip
                refine w_aload_n (pc' := 54) (i := 0) (by rfl) (by rfl) dX12_vote_53 rfl ?_
                refine w_getS (pc' := 57) (q := 203) fg_X12_229 kd_133 sf_X12_106 gr_133_106 dX12_vote_54 rfl ?_
                refine w_iload (pc' := 59) (by rfl) dX12_vote_57 rfl ?_
                refine w_iald (pc' := 60) kd_203 (by omega) (by omega) dX12_vote_59 rfl ?_
                show Wp _ _ _ _ _ _ [gI (σ 203 i)]
                rw [hI.e203 (i := i) (by omega) (by omega)]
                refine w_iload_n (pc' := 61) (i := 1) (by rfl) (by rfl) dX12_vote_60 rfl ?_
                refine w_icmp_ne (pc' := 64) (t := 77) dX12_vote_61 rfl rfl (fun c_61 => ?_) (fun c_61 => ?_)
                · skip
                  refine v_iinc (pc' := 80) (x := i) (ls' := [gR 133, gI m, gI p, gI b, gI (i + 1)]) (by omega) (by decide) (by rfl) (by rfl) dX12_vote_77 rfl ?_
                  refine w_goto (pc' := 44) dX12_vote_80 rfl ?_
                  exact ih_44 _ (by omega) (i + 1) rfl (by omega) (by intro j a b; by_cases e : j = i; rw [e]; omega; exact hz j a (by omega))
                · skip
                  refine w_aload_n (pc' := 65) (i := 0) (by rfl) (by rfl) dX12_vote_64 rfl ?_
                  refine w_getS (pc' := 68) (q := 204) fg_X12_232 kd_133 sf_X12_107 gr_133_107 dX12_vote_65 rfl ?_
                  refine w_iload (pc' := 70) (by rfl) dX12_vote_68 rfl ?_
                  refine w_iald (pc' := 71) kd_204 (by omega) (by omega) dX12_vote_70 rfl ?_
                  show Wp _ _ _ _ _ _ [gI (σ 204 i)]
                  rw [hI.e204 (i := i) (by omega) (by omega)]
                  refine w_iload_n (pc' := 72) (i := 2) (by rfl) (by rfl) dX12_vote_71 rfl ?_
                  refine w_icmp_ne (pc' := 75) (t := 77) dX12_vote_72 rfl rfl (fun c_72 => ?_) (fun c_72 => ?_)
                  · skip
                    refine v_iinc (pc' := 80) (x := i) (ls' := [gR 133, gI m, gI p, gI b, gI (i + 1)]) (by omega) (by decide) (by rfl) (by rfl) dX12_vote_77 rfl ?_
                    refine w_goto (pc' := 44) dX12_vote_80 rfl ?_
                    exact ih_44 _ (by omega) (i + 1) rfl (by omega) (by intro j a b; by_cases e : j = i; rw [e]; omega; exact hz j a (by omega))
                  · skip
                    refine w_iconst (pc' := 76) (by decide) dX12_vote_75 rfl ?_
                    refine v_ireturn rfl dX12_vote_76 ?_
                    first
                      | (exfalso; omega)
                      | (exfalso; have e : VT σ m p = 1 := anyI_1 h0 (by omega) ⟨by omega, by omega⟩; omega)
                      | (exfalso; have e : VT σ m p = 0 := anyI_0 (fun j a b => hz j a (by omega)); omega)
                      | exact ⟨(by first | rfl | exact congrArg gI (by omega) | exact congrArg gI (gb_t (by omega)) | exact congrArg gI (gb_f (by omega)) | (refine congrArg gI ?_; (repeat' split) <;> omega)), rfl⟩
          exact hl_44 _ 0 rfl (by omega) (by intro j a b; omega)
        · skip
          refine w_iconst (pc' := 40) (by decide) dX12_vote_39 rfl ?_
          refine v_ireturn rfl dX12_vote_40 ?_
          first
            | (exfalso; omega)
            | (exfalso; have e : VT σ m p = 1 := anyI_1 h0 (by omega) ⟨by omega, by omega⟩; omega)
            | (exfalso; have e : VT σ m p = 0 := anyI_0 (fun j a b => hz j a (by omega)); omega)
            | exact ⟨(by first | rfl | exact congrArg gI (by omega) | exact congrArg gI (gb_t (by omega)) | exact congrArg gI (gb_f (by omega)) | (refine congrArg gI ?_; (repeat' split) <;> omega)), rfl⟩
theorem i_vote {σ : gH} (hI : Inv σ) (m p b : Int) (hb : b = 0 ∨ b = 1) (hP : (0 ≤ m ∧ m < σ 125 5) ∧ MB σ p ≠ 0 ∧ σ 125 10 < 200 ∧ VT σ m p = 0) : Inv (gUp (gUp (gUp (gUp (gUp (gUp (gUp (gUp (gUp (gUp (gUp σ 129 (σ 125 10) m) 130 (σ 125 10) p) 131 (σ 125 10) b) 132 (σ 125 10) (σ 0 4)) 125 10 (σ 125 10 + 1)) 133 0 0) 203 (σ 125 10) m) 204 (σ 125 10) p) 206 (σ 125 10) b) 205 (σ 125 10) (σ 0 4)) 133 110 ((σ 125 10) + 1)) := by
  refine ⟨⟨⟨hI.f.day, hI.f.tape, hI.f.outs, hI.f.party, hI.f.own, hI.f.kin, hI.f.post, hI.f.gift, hI.f.worth, hI.f.mem, hI.f.mat, ?_, hI.f.ent⟩, hI.law, hI.ord⟩, hI.2.1, hI.mod⟩
  have hS := hI.f.vote
  refine ⟨?_, ?_, ?_, fun i h0 h1 => ?_⟩
  · exact rfl
  · show 0 ≤ σ 125 10 + 1
    have := hS.2.1
    omega
  · show σ 125 10 + 1 ≤ 200
    omega
  · have h2 : i < σ 125 10 + 1 := h1
    show (if i = σ 125 10 then m else σ 203 i) = (if i = σ 125 10 then m else σ 129 i) ∧ (if i = σ 125 10 then p else σ 204 i) = (if i = σ 125 10 then p else σ 130 i) ∧ (if i = σ 125 10 then b else σ 206 i) = (if i = σ 125 10 then b else σ 131 i) ∧ (if i = σ 125 10 then σ 0 4 else σ 205 i) = (if i = σ 125 10 then σ 0 4 else σ 132 i) ∧ 0 ≤ (if i = σ 125 10 then m else σ 129 i) ∧ (if i = σ 125 10 then m else σ 129 i) < σ 125 5 ∧ isPe σ ((if i = σ 125 10 then p else σ 130 i)) ∧ ((if i = σ 125 10 then b else σ 131 i) = 0 ∨ (if i = σ 125 10 then b else σ 131 i) = 1) ∧ isDy ((if i = σ 125 10 then σ 0 4 else σ 132 i))
    by_cases hi : i = σ 125 10
    · simp only [if_pos hi]
      exact ⟨trivial, trivial, trivial, trivial, hP.1.1, hP.1.2, MB_pe hI hP.2.1, hb, hI.f.day.2.1, hI.f.day.2.2⟩
    · simp only [if_neg hi]
      exact hS.2.2.2 i h0 (by omega)
theorem ci_vote (m p b : Int) (hb : b = 0 ∨ b = 1) : CI Inv mX11_vote mX12_vote [gI m, gI p, gI b] := CI_reg (fun σ => (0 ≤ m ∧ m < σ 125 5) ∧ MB σ p ≠ 0 ∧ σ 125 10 < 200 ∧ VT σ m p = 0) (fun σ => σ 125 10) (fun σ => -1) (fun σ => gUp (gUp (gUp (gUp (gUp σ 129 (σ 125 10) m) 130 (σ 125 10) p) 131 (σ 125 10) b) 132 (σ 125 10) (σ 0 4)) 125 10 (σ 125 10 + 1)) (fun σ => σ) (fun σ => gUp (gUp (gUp (gUp (gUp (gUp (gUp (gUp (gUp (gUp (gUp σ 129 (σ 125 10) m) 130 (σ 125 10) p) 131 (σ 125 10) b) 132 (σ 125 10) (σ 0 4)) 125 10 (σ 125 10 + 1)) 133 0 0) 203 (σ 125 10) m) 204 (σ 125 10) p) 206 (σ 125 10) b) 205 (σ 125 10) (σ 0 4)) 133 110 ((σ 125 10) + 1)) (fun σ => gUp σ 133 0 0) (fun σ hI => x_vote hI m p b hb) (fun σ hI hP => m_voteT hI m p b hb hP) (fun σ hI hP => m_voteF hI m p b hb hP) (fun σ hI hP => i_vote hI m p b hb hP) (fun σ hI _ => hI.thrown)
theorem gCmp_eq {x y : Int} : gCmp x y = 0 ↔ x = y := by
  unfold gCmp
  split
  · omega
  · split <;> omega
/-- what the tape holds as a name, in both systems -/
theorem NM_both {σ : gH} (hI : Inv σ) : (NMm (σ 133 2) (σ 134) = 0 ↔ NMc (σ 0 1) (σ 1) = -1) ∧ (NMc (σ 0 1) (σ 1) ≠ -1 → nmR (NMc (σ 0 1) (σ 1)) (NMm (σ 133 2) (σ 134))) ∧ (0 ≤ σ 133 2 ∧ σ 133 2 ≤ 540) ∧ ∀ i, 0 ≤ i → i < σ 133 2 → 0 ≤ σ 134 i ∧ σ 134 i ≤ 255 := by
  have ht := hI.f.tape
  have e : NMm (σ 133 2) (σ 134) = NMm (σ 0 1) (σ 1) := by
    rw [ht.1]
    exact NMm_congr ht.2.1 fun i a b => (ht.2.2.2 i a b).1
  rw [e]
  refine ⟨?_, fun h => ?_, by rw [ht.1]; exact ⟨ht.2.1, ht.2.2.1⟩, fun i a b => ?_⟩
  · rw [NMm_no, NMc_no]
  · by_cases k : nmOk (σ 0 1) (σ 1)
    · exact nmR_of k
    · exact absurd (NMc_no.mpr k) h
  · rw [ht.1] at b
    rw [(ht.2.2.2 i a b).1]
    exact (ht.2.2.2 i a b).2
theorem k_addEntT (σ : gH)  (g n d w t : Int) (hP : 0 ≤ σ 112 8 ∧ σ 112 8 < 100) : Mt mX6_add 0 [gR 112, gI g, gJ n, gI d, gI w, gI t] σ (rE (gI (σ 112 8)) (gUp (gUp (gUp (gUp (gUp (gUp σ 113 (σ 112 8) g) 114 (σ 112 8) n) 115 (σ 112 8) d) 116 (σ 112 8) w) 117 (σ 112 8) t) 112 8 (σ 112 8 + 1))) := by
  refine Mt.walk (ls := [gR 112, gI g, gJ n, gX 1, gI d, gI w, gI t]) pn_X6 rfl (fun _ _ h => by cases h.1) (Nat.le_of_ble_eq_true rfl) rfl ?_
  refine w_aload_n (pc' := 1) (i := 0) (by rfl) (by rfl) dX6_add_0 rfl ?_
  refine v_getI (pc' := 4) (ji := 8) rfl fg_X6_61 kd_112 dX6_add_1 rfl ?_
  refine w_if_lt (pc' := 7) (t := 16) dX6_add_4 rfl rfl (fun c_4 => ?_) (fun c_4 => ?_)
  · skip
    refine w_iconst (pc' := 17) (by decide) dX6_add_16 rfl ?_
    refine v_ireturn rfl dX6_add_17 ?_
    first | (exfalso; omega) | exact ⟨by first | rfl | exact congrArg gI (by omega), rfl⟩
  · skip
    refine w_aload_n (pc' := 8) (i := 0) (by rfl) (by rfl) dX6_add_7 rfl ?_
    refine v_getI (pc' := 11) (ji := 8) rfl fg_X6_61 kd_112 dX6_add_8 rfl ?_
    refine w_bipush (pc' := 13) (by decide) (by decide) dX6_add_11 rfl ?_
    refine w_icmp_lt (pc' := 16) (t := 18) dX6_add_13 rfl rfl (fun c_13 => ?_) (fun c_13 => ?_)
    · skip
      refine w_aload_n (pc' := 19) (i := 0) (by rfl) (by rfl) dX6_add_18 rfl ?_
      refine w_getS (pc' := 22) (q := 113) fg_X6_11 kd_112 sf_X6_3 gr_112_3 dX6_add_19 rfl ?_
      refine w_aload_n (pc' := 23) (i := 0) (by rfl) (by rfl) dX6_add_22 rfl ?_
      refine v_getI (pc' := 26) (ji := 8) rfl fg_X6_61 kd_112 dX6_add_23 rfl ?_
      refine w_iload_n (pc' := 27) (i := 1) (by rfl) (by rfl) dX6_add_26 rfl ?_
      refine w_iast (pc' := 28) kd_113 (by omega) (by omega) dX6_add_27 rfl ?_
      refine w_aload_n (pc' := 29) (i := 0) (by rfl) (by rfl) dX6_add_28 rfl ?_
      refine w_getS (pc' := 32) (q := 114) fg_X6_15 kd_112 sf_X6_4 gr_112_4 dX6_add_29 rfl ?_
      refine w_aload_n (pc' := 33) (i := 0) (by rfl) (by rfl) dX6_add_32 rfl ?_
      refine v_getI (pc' := 36) (ji := 8) rfl fg_X6_61 kd_112 dX6_add_33 rfl ?_
      show Wp _ _ _ _ _ _ [gI (σ 112 8), gR 114]
      refine w_lload_n (pc' := 37) (i := 2) (by rfl) (by rfl) dX6_add_36 rfl ?_
      refine w_last (pc' := 38) kd_114 (by omega) (by omega) dX6_add_37 rfl ?_
      refine w_aload_n (pc' := 39) (i := 0) (by rfl) (by rfl) dX6_add_38 rfl ?_
      refine w_getS (pc' := 42) (q := 115) fg_X6_19 kd_112 sf_X6_5 gr_112_5 dX6_add_39 rfl ?_
      refine w_aload_n (pc' := 43) (i := 0) (by rfl) (by rfl) dX6_add_42 rfl ?_
      refine v_getI (pc' := 46) (ji := 8) rfl fg_X6_61 kd_112 dX6_add_43 rfl ?_
      show Wp _ _ _ _ _ _ [gI (σ 112 8), gR 115]
      refine w_iload (pc' := 48) (by rfl) dX6_add_46 rfl ?_
      refine w_iast (pc' := 49) kd_115 (by omega) (by omega) dX6_add_48 rfl ?_
      refine w_aload_n (pc' := 50) (i := 0) (by rfl) (by rfl) dX6_add_49 rfl ?_
      refine w_getS (pc' := 53) (q := 116) fg_X6_22 kd_112 sf_X6_6 gr_112_6 dX6_add_50 rfl ?_
      refine w_aload_n (pc' := 54) (i := 0) (by rfl) (by rfl) dX6_add_53 rfl ?_
      refine v_getI (pc' := 57) (ji := 8) rfl fg_X6_61 kd_112 dX6_add_54 rfl ?_
      show Wp _ _ _ _ _ _ [gI (σ 112 8), gR 116]
      refine w_iload (pc' := 59) (by rfl) dX6_add_57 rfl ?_
      refine w_iast (pc' := 60) kd_116 (by omega) (by omega) dX6_add_59 rfl ?_
      refine w_aload_n (pc' := 61) (i := 0) (by rfl) (by rfl) dX6_add_60 rfl ?_
      refine w_getS (pc' := 64) (q := 117) fg_X6_25 kd_112 sf_X6_7 gr_112_7 dX6_add_61 rfl ?_
      refine w_aload_n (pc' := 65) (i := 0) (by rfl) (by rfl) dX6_add_64 rfl ?_
      refine v_getI (pc' := 68) (ji := 8) rfl fg_X6_61 kd_112 dX6_add_65 rfl ?_
      show Wp _ _ _ _ _ _ [gI (σ 112 8), gR 117]
      refine w_iload (pc' := 70) (by rfl) dX6_add_68 rfl ?_
      refine w_iast (pc' := 71) kd_117 (by omega) (by omega) dX6_add_70 rfl ?_
      refine w_aload_n (pc' := 72) (i := 0) (by rfl) (by rfl) dX6_add_71 rfl ?_
      refine w_dup (pc' := 73) dX6_add_72 rfl ?_
      refine v_getI (pc' := 76) (ji := 8) rfl fg_X6_61 kd_112 dX6_add_73 rfl ?_
      show Wp _ _ _ _ _ _ [gI (σ 112 8), gR 112]
      refine w_iconst (pc' := 77) (by decide) dX6_add_76 rfl ?_
      refine v_iadd (pc' := 78) (by omega) dX6_add_77 rfl ?_
      refine v_putI (pc' := 81) (ji := 8) rfl fp_X6_61 kd_112 sf_X6_8 dX6_add_78 rfl ?_
      refine w_aload_n (pc' := 82) (i := 0) (by rfl) (by rfl) dX6_add_81 rfl ?_
      refine v_getI (pc' := 85) (ji := 8) rfl fg_X6_61 kd_112 dX6_add_82 rfl ?_
      show Wp _ _ _ _ _ _ [gI ((σ 112 8) + 1)]
      refine w_iconst (pc' := 86) (by decide) dX6_add_85 rfl ?_
      refine v_isub (pc' := 87) (by omega) dX6_add_86 rfl ?_
      refine v_ireturn rfl dX6_add_87 ?_
      first | (exfalso; omega) | exact ⟨by first | rfl | exact congrArg gI (by omega), rfl⟩
    · skip
      refine w_iconst (pc' := 17) (by decide) dX6_add_16 rfl ?_
      refine v_ireturn rfl dX6_add_17 ?_
      first | (exfalso; omega) | exact ⟨by first | rfl | exact congrArg gI (by omega), rfl⟩
theorem k_addEntF (σ : gH)  (g n d w t : Int) (hP : ¬ (0 ≤ σ 112 8 ∧ σ 112 8 < 100)) : Mt mX6_add 0 [gR 112, gI g, gJ n, gI d, gI w, gI t] σ (rE (gI ((-1))) σ) := by
  refine Mt.walk (ls := [gR 112, gI g, gJ n, gX 1, gI d, gI w, gI t]) pn_X6 rfl (fun _ _ h => by cases h.1) (Nat.le_of_ble_eq_true rfl) rfl ?_
  refine w_aload_n (pc' := 1) (i := 0) (by rfl) (by rfl) dX6_add_0 rfl ?_
  refine v_getI (pc' := 4) (ji := 8) rfl fg_X6_61 kd_112 dX6_add_1 rfl ?_
  refine w_if_lt (pc' := 7) (t := 16) dX6_add_4 rfl rfl (fun c_4 => ?_) (fun c_4 => ?_)
  · skip
    refine w_iconst (pc' := 17) (by decide) dX6_add_16 rfl ?_
    refine v_ireturn rfl dX6_add_17 ?_
    first | (exfalso; omega) | exact ⟨rfl, rfl⟩
  · skip
    refine w_aload_n (pc' := 8) (i := 0) (by rfl) (by rfl) dX6_add_7 rfl ?_
    refine v_getI (pc' := 11) (ji := 8) rfl fg_X6_61 kd_112 dX6_add_8 rfl ?_
    refine w_bipush (pc' := 13) (by decide) (by decide) dX6_add_11 rfl ?_
    refine w_icmp_lt (pc' := 16) (t := 18) dX6_add_13 rfl rfl (fun c_13 => ?_) (fun c_13 => ?_)
    · skip
      refine w_aload_n (pc' := 19) (i := 0) (by rfl) (by rfl) dX6_add_18 rfl ?_
      refine w_getS (pc' := 22) (q := 113) fg_X6_11 kd_112 sf_X6_3 gr_112_3 dX6_add_19 rfl ?_
      refine w_aload_n (pc' := 23) (i := 0) (by rfl) (by rfl) dX6_add_22 rfl ?_
      refine v_getI (pc' := 26) (ji := 8) rfl fg_X6_61 kd_112 dX6_add_23 rfl ?_
      refine w_iload_n (pc' := 27) (i := 1) (by rfl) (by rfl) dX6_add_26 rfl ?_
      refine w_iast (pc' := 28) kd_113 (by omega) (by omega) dX6_add_27 rfl ?_
      refine w_aload_n (pc' := 29) (i := 0) (by rfl) (by rfl) dX6_add_28 rfl ?_
      refine w_getS (pc' := 32) (q := 114) fg_X6_15 kd_112 sf_X6_4 gr_112_4 dX6_add_29 rfl ?_
      refine w_aload_n (pc' := 33) (i := 0) (by rfl) (by rfl) dX6_add_32 rfl ?_
      refine v_getI (pc' := 36) (ji := 8) rfl fg_X6_61 kd_112 dX6_add_33 rfl ?_
      show Wp _ _ _ _ _ _ [gI (σ 112 8), gR 114]
      refine w_lload_n (pc' := 37) (i := 2) (by rfl) (by rfl) dX6_add_36 rfl ?_
      refine w_last (pc' := 38) kd_114 (by omega) (by omega) dX6_add_37 rfl ?_
      refine w_aload_n (pc' := 39) (i := 0) (by rfl) (by rfl) dX6_add_38 rfl ?_
      refine w_getS (pc' := 42) (q := 115) fg_X6_19 kd_112 sf_X6_5 gr_112_5 dX6_add_39 rfl ?_
      refine w_aload_n (pc' := 43) (i := 0) (by rfl) (by rfl) dX6_add_42 rfl ?_
      refine v_getI (pc' := 46) (ji := 8) rfl fg_X6_61 kd_112 dX6_add_43 rfl ?_
      show Wp _ _ _ _ _ _ [gI (σ 112 8), gR 115]
      refine w_iload (pc' := 48) (by rfl) dX6_add_46 rfl ?_
      refine w_iast (pc' := 49) kd_115 (by omega) (by omega) dX6_add_48 rfl ?_
      refine w_aload_n (pc' := 50) (i := 0) (by rfl) (by rfl) dX6_add_49 rfl ?_
      refine w_getS (pc' := 53) (q := 116) fg_X6_22 kd_112 sf_X6_6 gr_112_6 dX6_add_50 rfl ?_
      refine w_aload_n (pc' := 54) (i := 0) (by rfl) (by rfl) dX6_add_53 rfl ?_
      refine v_getI (pc' := 57) (ji := 8) rfl fg_X6_61 kd_112 dX6_add_54 rfl ?_
      show Wp _ _ _ _ _ _ [gI (σ 112 8), gR 116]
      refine w_iload (pc' := 59) (by rfl) dX6_add_57 rfl ?_
      refine w_iast (pc' := 60) kd_116 (by omega) (by omega) dX6_add_59 rfl ?_
      refine w_aload_n (pc' := 61) (i := 0) (by rfl) (by rfl) dX6_add_60 rfl ?_
      refine w_getS (pc' := 64) (q := 117) fg_X6_25 kd_112 sf_X6_7 gr_112_7 dX6_add_61 rfl ?_
      refine w_aload_n (pc' := 65) (i := 0) (by rfl) (by rfl) dX6_add_64 rfl ?_
      refine v_getI (pc' := 68) (ji := 8) rfl fg_X6_61 kd_112 dX6_add_65 rfl ?_
      show Wp _ _ _ _ _ _ [gI (σ 112 8), gR 117]
      refine w_iload (pc' := 70) (by rfl) dX6_add_68 rfl ?_
      refine w_iast (pc' := 71) kd_117 (by omega) (by omega) dX6_add_70 rfl ?_
      refine w_aload_n (pc' := 72) (i := 0) (by rfl) (by rfl) dX6_add_71 rfl ?_
      refine w_dup (pc' := 73) dX6_add_72 rfl ?_
      refine v_getI (pc' := 76) (ji := 8) rfl fg_X6_61 kd_112 dX6_add_73 rfl ?_
      show Wp _ _ _ _ _ _ [gI (σ 112 8), gR 112]
      refine w_iconst (pc' := 77) (by decide) dX6_add_76 rfl ?_
      refine v_iadd (pc' := 78) (by omega) dX6_add_77 rfl ?_
      refine v_putI (pc' := 81) (ji := 8) rfl fp_X6_61 kd_112 sf_X6_8 dX6_add_78 rfl ?_
      refine w_aload_n (pc' := 82) (i := 0) (by rfl) (by rfl) dX6_add_81 rfl ?_
      refine v_getI (pc' := 85) (ji := 8) rfl fg_X6_61 kd_112 dX6_add_82 rfl ?_
      show Wp _ _ _ _ _ _ [gI ((σ 112 8) + 1)]
      refine w_iconst (pc' := 86) (by decide) dX6_add_85 rfl ?_
      refine v_isub (pc' := 87) (by omega) dX6_add_86 rfl ?_
      refine v_ireturn rfl dX6_add_87 ?_
      first | (exfalso; omega) | exact ⟨rfl, rfl⟩
    · skip
      refine w_iconst (pc' := 17) (by decide) dX6_add_16 rfl ?_
      refine v_ireturn rfl dX6_add_17 ?_
      first | (exfalso; omega) | exact ⟨rfl, rfl⟩
theorem x_entry {σ : gH} (hI : Inv σ) (g d w : Int)  : Mt mX11_entry 30 [gR 0, gI g, gI d, gI w] σ (fun v σ' => (((0 ≤ g ∧ g < σ 3 2) ∧ NMc (σ 0 1) (σ 1) ≠ -1 ∧ (0 ≤ d ∧ d ≤ 9999) ∧ (0 ≤ w ∧ w ≤ 1000000) ∧ σ 112 8 < 100) ∧ v = gI (σ 112 8) ∧ σ' = gUp (gUp (gUp (gUp (gUp (gUp (gUp σ 0 1 0) 113 (σ 112 8) g) 114 (σ 112 8) (NMc (σ 0 1) (σ 1))) 115 (σ 112 8) d) 116 (σ 112 8) w) 117 (σ 112 8) (σ 0 4)) 112 8 (σ 112 8 + 1)) ∨ (¬ ((0 ≤ g ∧ g < σ 3 2) ∧ NMc (σ 0 1) (σ 1) ≠ -1 ∧ (0 ≤ d ∧ d ≤ 9999) ∧ (0 ≤ w ∧ w ≤ 1000000) ∧ σ 112 8 < 100) ∧ v = gI (-1) ∧ σ' = gUp σ 0 1 0)) := by
  refine Mt.walk (ls := [gR 0, gI g, gI d, gI w, gX 1, gX 1]) pn_X11 rfl (fun _ _ h => by rcases h with h | h <;> exact absurd h.2.1 (by intro h; cases h)) (Nat.le_of_ble_eq_true rfl) rfl ?_
  have hday := hI.f.day
  unfold S_day at hday
  have hp := hI.f.hp
  have hp0 := hI.f.party.2.1
  have hT := hI.f.tape.2.1
  have hT2 := hI.f.tape.2.2.1
  have f6 := hI.f6
  have hm0 := hI.f.mem.2.1
  have hm1 := hI.f.mem.2.2.1
  have ht0 := hI.f.mat.2.1
  have ht1 := hI.f.mat.2.2.1
  have hv0 := hI.f.vote.2.1
  have hv1 := hI.f.vote.2.2.1
  have he0 := hI.f.ent.2.1
  have he1 := hI.f.ent.2.2.1
  have hL : 0 ≤ σ 0 1 ∧ σ 0 1 ≤ 540 := ⟨by omega, by omega⟩
  obtain ⟨hnm, _, hL2, hby2⟩ := NM_both hI
  have hg1 : gCmp (NMc (σ 0 1) (σ 1)) (-1) = 0 ↔ NMc (σ 0 1) (σ 1) = -1 := gCmp_eq
  have hg2 : gCmp (NMm (σ 133 2) (σ 134)) 0 = 0 ↔ NMm (σ 133 2) (σ 134) = 0 := gCmp_eq
  have hg3 : gCmp (NMc (σ 0 1) (σ 1)) (-1) ≠ 0 ↔ NMc (σ 0 1) (σ 1) ≠ -1 := not_congr gCmp_eq
  have hg4 : gCmp (NMm (σ 133 2) (σ 134)) 0 ≠ 0 ↔ NMm (σ 133 2) (σ 134) ≠ 0 := not_congr gCmp_eq
  refine w_aload_n (pc' := 1) (i := 0) (by rfl) (by rfl) dX11_entry_0 rfl ?_
  refine v_callVE (pc' := 4) (st' := [gJ (NMc (σ 0 1) (σ 1))]) (d' := 1) (av := []) mi_mX11_takeName lk_X11_99 rfl ci_X11 kd_0 rfl (Nat.le_of_ble_eq_true rfl) (Nat.le_of_ble_eq_true rfl) dX11_entry_1 rfl rfl (k_takeName σ hL) ?_
  refine w_lstore (pc' := 6) (ls' := [gR 0, gI g, gI d, gI w, gJ (NMc (σ 0 1) (σ 1)), gX 1]) (by decide) (by rfl) dX11_entry_4 rfl ?_
  refine w_aload_n (pc' := 7) (i := 0) (by rfl) (by rfl) dX11_entry_6 rfl ?_
  refine w_getS (pc' := 10) (q := 3) fg_X11_21 kd_0 sf_X11_5 gr_0_5 dX11_entry_7 rfl ?_
  refine w_iload_n (pc' := 11) (i := 1) (by rfl) (by rfl) dX11_entry_10 rfl ?_
  refine v_callVE (pc' := 14) (st' := [gI (gb (0 ≤ g ∧ g < (σ 3 2)))]) (d' := 0) (av := [gI g]) mi_mX8_has lk_X11_111 rfl ci_X8 kd_3 rfl (Nat.le_of_ble_eq_true rfl) (Nat.le_of_ble_eq_true rfl) dX11_entry_11 rfl rfl (pa_has (gUp σ 0 1 0) (by first | exact hp | omega) g) ?_
  refine v_if_eqB (pc' := 17) (t := 43) dX11_entry_14 rfl rfl (fun c_14 => ?_) (fun c_14 => ?_)
  · skip
    refine w_iconst (pc' := 44) (by decide) dX11_entry_43 rfl ?_
    refine v_ireturn rfl dX11_entry_44 ?_
    first
      | (exfalso; omega)
      | exact .inl ⟨by omega, (by first | rfl | exact congrArg gI (by omega) | exact congrArg gI (gb_t (by omega)) | exact congrArg gI (gb_f (by omega)) | (refine congrArg gI ?_; (repeat' split) <;> omega)), rfl⟩
      | exact .inr ⟨by omega, (by first | rfl | exact congrArg gI (by omega) | exact congrArg gI (gb_t (by omega)) | exact congrArg gI (gb_f (by omega)) | (refine congrArg gI ?_; (repeat' split) <;> omega)), rfl⟩
  · skip
    refine w_lload (pc' := 19) (by rfl) dX11_entry_17 rfl ?_
    refine w_ldc2 (pc' := 22) (by decide) ct_X11_168 dX11_entry_19 rfl ?_
    refine w_lcmp (pc' := 23) dX11_entry_22 rfl ?_
    refine w_if_eq (pc' := 26) (t := 43) dX11_entry_23 rfl rfl (fun c_23 => ?_) (fun c_23 => ?_)
    · skip
      refine w_iconst (pc' := 44) (by decide) dX11_entry_43 rfl ?_
      refine v_ireturn rfl dX11_entry_44 ?_
      first
        | (exfalso; omega)
        | exact .inl ⟨by omega, (by first | rfl | exact congrArg gI (by omega) | exact congrArg gI (gb_t (by omega)) | exact congrArg gI (gb_f (by omega)) | (refine congrArg gI ?_; (repeat' split) <;> omega)), rfl⟩
        | exact .inr ⟨by omega, (by first | rfl | exact congrArg gI (by omega) | exact congrArg gI (gb_t (by omega)) | exact congrArg gI (gb_f (by omega)) | (refine congrArg gI ?_; (repeat' split) <;> omega)), rfl⟩
    · skip
      refine w_iload_n (pc' := 27) (i := 2) (by rfl) (by rfl) dX11_entry_26 rfl ?_
      refine v_callSE (pc' := 30) (st' := [gI (gb (0 ≤ d ∧ d ≤ 9999))]) (d' := 0) (av := [gI d]) ms_mX11_isDay st_mX11_isDay lk_X11_129 rfl rfl (Nat.le_of_ble_eq_true rfl) (Nat.le_of_ble_eq_true rfl) dX11_entry_27 rfl rfl (cl_isDay (gUp σ 0 1 0) d) ?_
      refine v_if_eqB (pc' := 33) (t := 43) dX11_entry_30 rfl rfl (fun c_30 => ?_) (fun c_30 => ?_)
      · skip
        refine w_iconst (pc' := 44) (by decide) dX11_entry_43 rfl ?_
        refine v_ireturn rfl dX11_entry_44 ?_
        first
          | (exfalso; omega)
          | exact .inl ⟨by omega, (by first | rfl | exact congrArg gI (by omega) | exact congrArg gI (gb_t (by omega)) | exact congrArg gI (gb_f (by omega)) | (refine congrArg gI ?_; (repeat' split) <;> omega)), rfl⟩
          | exact .inr ⟨by omega, (by first | rfl | exact congrArg gI (by omega) | exact congrArg gI (gb_t (by omega)) | exact congrArg gI (gb_f (by omega)) | (refine congrArg gI ?_; (repeat' split) <;> omega)), rfl⟩
      · skip
        refine w_iload_n (pc' := 34) (i := 3) (by rfl) (by rfl) dX11_entry_33 rfl ?_
        refine w_if_lt (pc' := 37) (t := 43) dX11_entry_34 rfl rfl (fun c_34 => ?_) (fun c_34 => ?_)
        · skip
          refine w_iconst (pc' := 44) (by decide) dX11_entry_43 rfl ?_
          refine v_ireturn rfl dX11_entry_44 ?_
          first
            | (exfalso; omega)
            | exact .inl ⟨by omega, (by first | rfl | exact congrArg gI (by omega) | exact congrArg gI (gb_t (by omega)) | exact congrArg gI (gb_f (by omega)) | (refine congrArg gI ?_; (repeat' split) <;> omega)), rfl⟩
            | exact .inr ⟨by omega, (by first | rfl | exact congrArg gI (by omega) | exact congrArg gI (gb_t (by omega)) | exact congrArg gI (gb_f (by omega)) | (refine congrArg gI ?_; (repeat' split) <;> omega)), rfl⟩
        · skip
          refine w_iload_n (pc' := 38) (i := 3) (by rfl) (by rfl) dX11_entry_37 rfl ?_
          refine w_ldc (pc' := 40) (by decide) ct_X11_150 dX11_entry_38 rfl ?_
          refine w_icmp_le (pc' := 43) (t := 45) dX11_entry_40 rfl rfl (fun c_40 => ?_) (fun c_40 => ?_)
          · skip
            refine w_aload_n (pc' := 46) (i := 0) (by rfl) (by rfl) dX11_entry_45 rfl ?_
            refine w_getS (pc' := 49) (q := 112) fg_X11_76 kd_0 sf_X11_12 gr_0_12 dX11_entry_46 rfl ?_
            refine w_iload_n (pc' := 50) (i := 1) (by rfl) (by rfl) dX11_entry_49 rfl ?_
            refine w_lload (pc' := 52) (by rfl) dX11_entry_50 rfl ?_
            refine w_iload_n (pc' := 53) (i := 2) (by rfl) (by rfl) dX11_entry_52 rfl ?_
            refine w_iload_n (pc' := 54) (i := 3) (by rfl) (by rfl) dX11_entry_53 rfl ?_
            refine w_aload_n (pc' := 55) (i := 0) (by rfl) (by rfl) dX11_entry_54 rfl ?_
            refine v_getI (pc' := 58) (ji := 4) rfl fg_X11_96 kd_0 dX11_entry_55 rfl ?_
            show Wp _ _ _ _ _ _ [gI (σ 0 4), gI w, gI d, gJ (NMc (σ 0 1) (σ 1)), gI g, gR 112]
            by_cases c_58 : 0 ≤ σ 112 8 ∧ σ 112 8 < 100
            · skip
              refine v_callVE (pc' := 61) (st' := [gI (σ 112 8)]) (d' := 0) (av := [gI g, gJ (NMc (σ 0 1) (σ 1)), gI d, gI w, gI (σ 0 4)]) mi_mX6_add lk_X11_236 rfl ci_X6 kd_112 rfl (Nat.le_of_ble_eq_true rfl) (Nat.le_of_ble_eq_true rfl) dX11_entry_58 rfl rfl (k_addEntT (gUp σ 0 1 0) g (NMc (σ 0 1) (σ 1)) d w (σ 0 4) c_58) ?_
              show Wp _ _ _ (gUp (gUp (gUp (gUp (gUp (gUp (gUp σ 0 1 0) 113 (σ 112 8) g) 114 (σ 112 8) (NMc (σ 0 1) (σ 1))) 115 (σ 112 8) d) 116 (σ 112 8) w) 117 (σ 112 8) (σ 0 4)) 112 8 (σ 112 8 + 1)) _ _ [gI (σ 112 8)]
              refine v_ireturn rfl dX11_entry_61 ?_
              first
                | (exfalso; omega)
                | exact .inl ⟨by omega, (by first | rfl | exact congrArg gI (by omega) | exact congrArg gI (gb_t (by omega)) | exact congrArg gI (gb_f (by omega)) | (refine congrArg gI ?_; (repeat' split) <;> omega)), rfl⟩
                | exact .inr ⟨by omega, (by first | rfl | exact congrArg gI (by omega) | exact congrArg gI (gb_t (by omega)) | exact congrArg gI (gb_f (by omega)) | (refine congrArg gI ?_; (repeat' split) <;> omega)), rfl⟩
            · skip
              refine v_callVE (pc' := 61) (st' := [gI (-1)]) (d' := 0) (av := [gI g, gJ (NMc (σ 0 1) (σ 1)), gI d, gI w, gI (σ 0 4)]) mi_mX6_add lk_X11_236 rfl ci_X6 kd_112 rfl (Nat.le_of_ble_eq_true rfl) (Nat.le_of_ble_eq_true rfl) dX11_entry_58 rfl rfl (k_addEntF (gUp σ 0 1 0) g (NMc (σ 0 1) (σ 1)) d w (σ 0 4) c_58) ?_
              show Wp _ _ _ (gUp σ 0 1 0) _ _ [gI (-1)]
              refine v_ireturn rfl dX11_entry_61 ?_
              first
                | (exfalso; omega)
                | exact .inl ⟨by omega, (by first | rfl | exact congrArg gI (by omega) | exact congrArg gI (gb_t (by omega)) | exact congrArg gI (gb_f (by omega)) | (refine congrArg gI ?_; (repeat' split) <;> omega)), rfl⟩
                | exact .inr ⟨by omega, (by first | rfl | exact congrArg gI (by omega) | exact congrArg gI (gb_t (by omega)) | exact congrArg gI (gb_f (by omega)) | (refine congrArg gI ?_; (repeat' split) <;> omega)), rfl⟩
          · skip
            refine w_iconst (pc' := 44) (by decide) dX11_entry_43 rfl ?_
            refine v_ireturn rfl dX11_entry_44 ?_
            first
              | (exfalso; omega)
              | exact .inl ⟨by omega, (by first | rfl | exact congrArg gI (by omega) | exact congrArg gI (gb_t (by omega)) | exact congrArg gI (gb_f (by omega)) | (refine congrArg gI ?_; (repeat' split) <;> omega)), rfl⟩
              | exact .inr ⟨by omega, (by first | rfl | exact congrArg gI (by omega) | exact congrArg gI (gb_t (by omega)) | exact congrArg gI (gb_f (by omega)) | (refine congrArg gI ?_; (repeat' split) <;> omega)), rfl⟩
theorem m_entryT {σ : gH} (hI : Inv σ) (g d w : Int)  (hP : (0 ≤ g ∧ g < σ 3 2) ∧ NMc (σ 0 1) (σ 1) ≠ -1 ∧ (0 ≤ d ∧ d ≤ 9999) ∧ (0 ≤ w ∧ w ≤ 1000000) ∧ σ 112 8 < 100) : Mt mX12_entry 30 [gR 133, gI g, gI d, gI w] (gUp (gUp (gUp (gUp (gUp (gUp (gUp σ 0 1 0) 113 (σ 112 8) g) 114 (σ 112 8) (NMc (σ 0 1) (σ 1))) 115 (σ 112 8) d) 116 (σ 112 8) w) 117 (σ 112 8) (σ 0 4)) 112 8 (σ 112 8 + 1)) (rE (gI (σ 112 8)) (gUp (gUp (gUp (gUp (gUp (gUp (gUp (gUp (gUp (gUp (gUp (gUp (gUp (gUp (gUp σ 0 1 0) 113 (σ 112 8) g) 114 (σ 112 8) (NMc (σ 0 1) (σ 1))) 115 (σ 112 8) d) 116 (σ 112 8) w) 117 (σ 112 8) (σ 0 4)) 112 8 (σ 112 8 + 1)) 133 0 0) 133 2 0) 192 (σ 112 8) g) 196 (σ 112 8) (NMm (σ 133 2) (σ 134))) 193 (σ 112 8) d) 194 (σ 112 8) w) 195 (σ 112 8) (σ 0 4)) 133 99 ((σ 112 8) + 1))) := by
  refine Mt.walk (ls := [gR 133, gI g, gI d, gI w, gX 1, gX 1]) pn_X12 rfl (fun _ _ h => by cases h.1) (Nat.le_of_ble_eq_true rfl) rfl ?_
  have hday := hI.f.day
  unfold S_day at hday
  have hp := hI.f.hp
  have hp0 := hI.f.party.2.1
  have hT := hI.f.tape.2.1
  have hT2 := hI.f.tape.2.2.1
  have f6 := hI.f6
  have hm0 := hI.f.mem.2.1
  have hm1 := hI.f.mem.2.2.1
  have ht0 := hI.f.mat.2.1
  have ht1 := hI.f.mat.2.2.1
  have hv0 := hI.f.vote.2.1
  have hv1 := hI.f.vote.2.2.1
  have he0 := hI.f.ent.2.1
  have he1 := hI.f.ent.2.2.1
  have hL : 0 ≤ σ 0 1 ∧ σ 0 1 ≤ 540 := ⟨by omega, by omega⟩
  obtain ⟨hnm, _, hL2, hby2⟩ := NM_both hI
  have hg1 : gCmp (NMc (σ 0 1) (σ 1)) (-1) = 0 ↔ NMc (σ 0 1) (σ 1) = -1 := gCmp_eq
  have hg2 : gCmp (NMm (σ 133 2) (σ 134)) 0 = 0 ↔ NMm (σ 133 2) (σ 134) = 0 := gCmp_eq
  have hg3 : gCmp (NMc (σ 0 1) (σ 1)) (-1) ≠ 0 ↔ NMc (σ 0 1) (σ 1) ≠ -1 := not_congr gCmp_eq
  have hg4 : gCmp (NMm (σ 133 2) (σ 134)) 0 ≠ 0 ↔ NMm (σ 133 2) (σ 134) ≠ 0 := not_congr gCmp_eq
  refine w_aload_n (pc' := 1) (i := 0) (by rfl) (by rfl) dX12_entry_0 rfl ?_
  refine w_iconst (pc' := 2) (by decide) dX12_entry_1 rfl ?_
  refine v_putI (pc' := 5) (ji := 0) rfl fp_X12_244 kd_133 sf_X12_0 dX12_entry_2 rfl ?_
  refine w_aload_n (pc' := 6) (i := 0) (by rfl) (by rfl) dX12_entry_5 rfl ?_
  refine v_callVE (pc' := 9) (st' := [gJ (NMm (σ 133 2) (σ 134))]) (d' := 1) (av := []) mi_mX12_takeName lk_X12_269 rfl ci_X12 kd_133 rfl (Nat.le_of_ble_eq_true rfl) (Nat.le_of_ble_eq_true rfl) dX12_entry_6 rfl rfl (q_takeName (gUp (gUp (gUp (gUp (gUp (gUp (gUp (gUp σ 0 1 0) 113 (σ 112 8) g) 114 (σ 112 8) (NMc (σ 0 1) (σ 1))) 115 (σ 112 8) d) 116 (σ 112 8) w) 117 (σ 112 8) (σ 0 4)) 112 8 (σ 112 8 + 1)) 133 0 0) hL2 hby2) ?_
  refine w_lstore (pc' := 11) (ls' := [gR 133, gI g, gI d, gI w, gJ (NMm (σ 133 2) (σ 134)), gX 1]) (by decide) (by rfl) dX12_entry_9 rfl ?_
  refine w_aload_n (pc' := 12) (i := 0) (by rfl) (by rfl) dX12_entry_11 rfl ?_
  refine v_getI (pc' := 15) (ji := 99) rfl fg_X12_562 kd_133 dX12_entry_12 rfl ?_
  show Wp _ _ _ _ _ _ [gI (σ 133 99)]
  rw [hI.f99]
  refine w_bipush (pc' := 17) (by decide) (by decide) dX12_entry_15 rfl ?_
  refine w_icmp_eq (pc' := 20) (t := 53) dX12_entry_17 rfl rfl (fun c_17 => ?_) (fun c_17 => ?_)
  · skip
    refine w_iconst (pc' := 54) (by decide) dX12_entry_53 rfl ?_
    refine v_ireturn rfl dX12_entry_54 ?_
    first
      | (exfalso; omega)
      | exact ⟨(by first | rfl | exact congrArg gI (by omega) | exact congrArg gI (gb_t (by omega)) | exact congrArg gI (gb_f (by omega)) | (refine congrArg gI ?_; (repeat' split) <;> omega)), rfl⟩
  · skip
    refine w_aload_n (pc' := 21) (i := 0) (by rfl) (by rfl) dX12_entry_20 rfl ?_
    refine w_iload_n (pc' := 22) (i := 1) (by rfl) (by rfl) dX12_entry_21 rfl ?_
    refine v_callVE (pc' := 25) (st' := [gI (gb (0 ≤ g ∧ g < (σ 133 6)))]) (d' := 0) (av := [gI g]) mi_mX12_isParty lk_X12_276 rfl ci_X12 kd_133 rfl (Nat.le_of_ble_eq_true rfl) (Nat.le_of_ble_eq_true rfl) dX12_entry_22 rfl rfl (mo_isParty (gUp (gUp (gUp (gUp (gUp (gUp (gUp (gUp (gUp σ 0 1 0) 113 (σ 112 8) g) 114 (σ 112 8) (NMc (σ 0 1) (σ 1))) 115 (σ 112 8) d) 116 (σ 112 8) w) 117 (σ 112 8) (σ 0 4)) 112 8 (σ 112 8 + 1)) 133 0 0) 133 2 0)  g) ?_
    refine v_if_eqB (pc' := 28) (t := 53) dX12_entry_25 rfl rfl (fun c_25 => ?_) (fun c_25 => ?_)
    · skip
      refine w_iconst (pc' := 54) (by decide) dX12_entry_53 rfl ?_
      refine v_ireturn rfl dX12_entry_54 ?_
      first
        | (exfalso; omega)
        | exact ⟨(by first | rfl | exact congrArg gI (by omega) | exact congrArg gI (gb_t (by omega)) | exact congrArg gI (gb_f (by omega)) | (refine congrArg gI ?_; (repeat' split) <;> omega)), rfl⟩
    · skip
      refine w_lload (pc' := 30) (by rfl) dX12_entry_28 rfl ?_
      refine w_lconst (n := 0) (pc' := 31) (by decide) (by decide) dX12_entry_30 rfl ?_
      refine w_lcmp (pc' := 32) dX12_entry_31 rfl ?_
      refine w_if_eq (pc' := 35) (t := 53) dX12_entry_32 rfl rfl (fun c_32 => ?_) (fun c_32 => ?_)
      · skip
        refine w_iconst (pc' := 54) (by decide) dX12_entry_53 rfl ?_
        refine v_ireturn rfl dX12_entry_54 ?_
        first
          | (exfalso; omega)
          | exact ⟨(by first | rfl | exact congrArg gI (by omega) | exact congrArg gI (gb_t (by omega)) | exact congrArg gI (gb_f (by omega)) | (refine congrArg gI ?_; (repeat' split) <;> omega)), rfl⟩
      · skip
        refine w_iload_n (pc' := 36) (i := 2) (by rfl) (by rfl) dX12_entry_35 rfl ?_
        refine v_callSE (pc' := 39) (st' := [gI (gb (0 ≤ d ∧ d ≤ 9999))]) (d' := 0) (av := [gI d]) ms_mX12_isDay st_mX12_isDay lk_X12_279 rfl rfl (Nat.le_of_ble_eq_true rfl) (Nat.le_of_ble_eq_true rfl) dX12_entry_36 rfl rfl (mo_isDay (gUp (gUp (gUp (gUp (gUp (gUp (gUp (gUp (gUp σ 0 1 0) 113 (σ 112 8) g) 114 (σ 112 8) (NMc (σ 0 1) (σ 1))) 115 (σ 112 8) d) 116 (σ 112 8) w) 117 (σ 112 8) (σ 0 4)) 112 8 (σ 112 8 + 1)) 133 0 0) 133 2 0) d) ?_
        refine v_if_eqB (pc' := 42) (t := 53) dX12_entry_39 rfl rfl (fun c_39 => ?_) (fun c_39 => ?_)
        · skip
          refine w_iconst (pc' := 54) (by decide) dX12_entry_53 rfl ?_
          refine v_ireturn rfl dX12_entry_54 ?_
          first
            | (exfalso; omega)
            | exact ⟨(by first | rfl | exact congrArg gI (by omega) | exact congrArg gI (gb_t (by omega)) | exact congrArg gI (gb_f (by omega)) | (refine congrArg gI ?_; (repeat' split) <;> omega)), rfl⟩
        · skip
          refine w_iload_n (pc' := 43) (i := 3) (by rfl) (by rfl) dX12_entry_42 rfl ?_
          refine w_iconst (pc' := 44) (by decide) dX12_entry_43 rfl ?_
          refine w_ldc_w (pc' := 47) (by decide) ct_X12_308 dX12_entry_44 rfl ?_
          refine v_callSE (pc' := 50) (st' := [gI (gb (0 ≤ w ∧ w ≤ 1000000))]) (d' := 0) (av := [gI w, gI 0, gI 1000000]) ms_mX12_isIn st_mX12_isIn lk_X12_254 rfl rfl (Nat.le_of_ble_eq_true rfl) (Nat.le_of_ble_eq_true rfl) dX12_entry_47 rfl rfl (mo_isIn (gUp (gUp (gUp (gUp (gUp (gUp (gUp (gUp (gUp σ 0 1 0) 113 (σ 112 8) g) 114 (σ 112 8) (NMc (σ 0 1) (σ 1))) 115 (σ 112 8) d) 116 (σ 112 8) w) 117 (σ 112 8) (σ 0 4)) 112 8 (σ 112 8 + 1)) 133 0 0) 133 2 0) w 0 1000000) ?_
          refine v_if_neB (pc' := 53) (t := 55) dX12_entry_50 rfl rfl (fun c_50 => ?_) (fun c_50 => ?_)
          · skip
            refine w_aload_n (pc' := 56) (i := 0) (by rfl) (by rfl) dX12_entry_55 rfl ?_
            refine w_getS (pc' := 59) (q := 192) fg_X12_196 kd_133 sf_X12_94 gr_133_94 dX12_entry_56 rfl ?_
            refine w_aload_n (pc' := 60) (i := 0) (by rfl) (by rfl) dX12_entry_59 rfl ?_
            refine v_getI (pc' := 63) (ji := 99) rfl fg_X12_562 kd_133 dX12_entry_60 rfl ?_
            show Wp _ _ _ _ _ _ [gI (σ 133 99), gR 192]
            rw [hI.f99]
            refine w_iload_n (pc' := 64) (i := 1) (by rfl) (by rfl) dX12_entry_63 rfl ?_
            refine w_iast (pc' := 65) kd_192 (by omega) (by omega) dX12_entry_64 rfl ?_
            refine w_aload_n (pc' := 66) (i := 0) (by rfl) (by rfl) dX12_entry_65 rfl ?_
            refine w_getS (pc' := 69) (q := 196) fg_X12_208 kd_133 sf_X12_98 gr_133_98 dX12_entry_66 rfl ?_
            refine w_aload_n (pc' := 70) (i := 0) (by rfl) (by rfl) dX12_entry_69 rfl ?_
            refine v_getI (pc' := 73) (ji := 99) rfl fg_X12_562 kd_133 dX12_entry_70 rfl ?_
            show Wp _ _ _ _ _ _ [gI (σ 133 99), gR 196]
            rw [hI.f99]
            refine w_lload (pc' := 75) (by rfl) dX12_entry_73 rfl ?_
            refine w_last (pc' := 76) kd_196 (by omega) (by omega) dX12_entry_75 rfl ?_
            refine w_aload_n (pc' := 77) (i := 0) (by rfl) (by rfl) dX12_entry_76 rfl ?_
            refine w_getS (pc' := 80) (q := 193) fg_X12_199 kd_133 sf_X12_95 gr_133_95 dX12_entry_77 rfl ?_
            refine w_aload_n (pc' := 81) (i := 0) (by rfl) (by rfl) dX12_entry_80 rfl ?_
            refine v_getI (pc' := 84) (ji := 99) rfl fg_X12_562 kd_133 dX12_entry_81 rfl ?_
            show Wp _ _ _ _ _ _ [gI (σ 133 99), gR 193]
            rw [hI.f99]
            refine w_iload_n (pc' := 85) (i := 2) (by rfl) (by rfl) dX12_entry_84 rfl ?_
            refine w_iast (pc' := 86) kd_193 (by omega) (by omega) dX12_entry_85 rfl ?_
            refine w_aload_n (pc' := 87) (i := 0) (by rfl) (by rfl) dX12_entry_86 rfl ?_
            refine w_getS (pc' := 90) (q := 194) fg_X12_202 kd_133 sf_X12_96 gr_133_96 dX12_entry_87 rfl ?_
            refine w_aload_n (pc' := 91) (i := 0) (by rfl) (by rfl) dX12_entry_90 rfl ?_
            refine v_getI (pc' := 94) (ji := 99) rfl fg_X12_562 kd_133 dX12_entry_91 rfl ?_
            show Wp _ _ _ _ _ _ [gI (σ 133 99), gR 194]
            rw [hI.f99]
            refine w_iload_n (pc' := 95) (i := 3) (by rfl) (by rfl) dX12_entry_94 rfl ?_
            refine w_iast (pc' := 96) kd_194 (by omega) (by omega) dX12_entry_95 rfl ?_
            refine w_aload_n (pc' := 97) (i := 0) (by rfl) (by rfl) dX12_entry_96 rfl ?_
            refine w_getS (pc' := 100) (q := 195) fg_X12_205 kd_133 sf_X12_97 gr_133_97 dX12_entry_97 rfl ?_
            refine w_aload_n (pc' := 101) (i := 0) (by rfl) (by rfl) dX12_entry_100 rfl ?_
            refine v_getI (pc' := 104) (ji := 99) rfl fg_X12_562 kd_133 dX12_entry_101 rfl ?_
            show Wp _ _ _ _ _ _ [gI (σ 133 99), gR 195]
            rw [hI.f99]
            refine w_aload_n (pc' := 105) (i := 0) (by rfl) (by rfl) dX12_entry_104 rfl ?_
            refine v_getI (pc' := 108) (ji := 3) rfl fg_X12_258 kd_133 dX12_entry_105 rfl ?_
            show Wp _ _ _ _ _ _ [gI (σ 133 3), gI (σ 112 8), gR 195]
            rw [hI.f3]
            refine w_iast (pc' := 109) kd_195 (by omega) (by omega) dX12_entry_108 rfl ?_
            refine w_aload_n (pc' := 110) (i := 0) (by rfl) (by rfl) dX12_entry_109 rfl ?_
            refine w_dup (pc' := 111) dX12_entry_110 rfl ?_
            refine v_getI (pc' := 114) (ji := 99) rfl fg_X12_562 kd_133 dX12_entry_111 rfl ?_
            show Wp _ _ _ _ _ _ [gI (σ 133 99), gR 133]
            rw [hI.f99]
            refine w_iconst (pc' := 115) (by decide) dX12_entry_114 rfl ?_
            refine v_iadd (pc' := 116) (by omega) dX12_entry_115 rfl ?_
            refine v_putI (pc' := 119) (ji := 99) rfl fp_X12_562 kd_133 sf_X12_99 dX12_entry_116 rfl ?_
            refine w_aload_n (pc' := 120) (i := 0) (by rfl) (by rfl) dX12_entry_119 rfl ?_
            refine v_getI (pc' := 123) (ji := 99) rfl fg_X12_562 kd_133 dX12_entry_120 rfl ?_
            show Wp _ _ _ _ _ _ [gI ((σ 112 8) + 1)]
            refine w_iconst (pc' := 124) (by decide) dX12_entry_123 rfl ?_
            refine v_isub (pc' := 125) (by omega) dX12_entry_124 rfl ?_
            refine v_ireturn rfl dX12_entry_125 ?_
            first
              | (exfalso; omega)
              | exact ⟨(by first | rfl | exact congrArg gI (by omega) | exact congrArg gI (gb_t (by omega)) | exact congrArg gI (gb_f (by omega)) | (refine congrArg gI ?_; (repeat' split) <;> omega)), rfl⟩
          · skip
            refine w_iconst (pc' := 54) (by decide) dX12_entry_53 rfl ?_
            refine v_ireturn rfl dX12_entry_54 ?_
            first
              | (exfalso; omega)
              | exact ⟨(by first | rfl | exact congrArg gI (by omega) | exact congrArg gI (gb_t (by omega)) | exact congrArg gI (gb_f (by omega)) | (refine congrArg gI ?_; (repeat' split) <;> omega)), rfl⟩
theorem m_entryF {σ : gH} (hI : Inv σ) (g d w : Int)  (hP : ¬ ((0 ≤ g ∧ g < σ 3 2) ∧ NMc (σ 0 1) (σ 1) ≠ -1 ∧ (0 ≤ d ∧ d ≤ 9999) ∧ (0 ≤ w ∧ w ≤ 1000000) ∧ σ 112 8 < 100)) : Mt mX12_entry 30 [gR 133, gI g, gI d, gI w] (gUp σ 0 1 0) (rE (gI (-1)) (gUp (gUp (gUp σ 0 1 0) 133 0 0) 133 2 0)) := by
  refine Mt.walk (ls := [gR 133, gI g, gI d, gI w, gX 1, gX 1]) pn_X12 rfl (fun _ _ h => by cases h.1) (Nat.le_of_ble_eq_true rfl) rfl ?_
  have hday := hI.f.day
  unfold S_day at hday
  have hp := hI.f.hp
  have hp0 := hI.f.party.2.1
  have hT := hI.f.tape.2.1
  have hT2 := hI.f.tape.2.2.1
  have f6 := hI.f6
  have hm0 := hI.f.mem.2.1
  have hm1 := hI.f.mem.2.2.1
  have ht0 := hI.f.mat.2.1
  have ht1 := hI.f.mat.2.2.1
  have hv0 := hI.f.vote.2.1
  have hv1 := hI.f.vote.2.2.1
  have he0 := hI.f.ent.2.1
  have he1 := hI.f.ent.2.2.1
  have hL : 0 ≤ σ 0 1 ∧ σ 0 1 ≤ 540 := ⟨by omega, by omega⟩
  obtain ⟨hnm, _, hL2, hby2⟩ := NM_both hI
  have hg1 : gCmp (NMc (σ 0 1) (σ 1)) (-1) = 0 ↔ NMc (σ 0 1) (σ 1) = -1 := gCmp_eq
  have hg2 : gCmp (NMm (σ 133 2) (σ 134)) 0 = 0 ↔ NMm (σ 133 2) (σ 134) = 0 := gCmp_eq
  have hg3 : gCmp (NMc (σ 0 1) (σ 1)) (-1) ≠ 0 ↔ NMc (σ 0 1) (σ 1) ≠ -1 := not_congr gCmp_eq
  have hg4 : gCmp (NMm (σ 133 2) (σ 134)) 0 ≠ 0 ↔ NMm (σ 133 2) (σ 134) ≠ 0 := not_congr gCmp_eq
  refine w_aload_n (pc' := 1) (i := 0) (by rfl) (by rfl) dX12_entry_0 rfl ?_
  refine w_iconst (pc' := 2) (by decide) dX12_entry_1 rfl ?_
  refine v_putI (pc' := 5) (ji := 0) rfl fp_X12_244 kd_133 sf_X12_0 dX12_entry_2 rfl ?_
  refine w_aload_n (pc' := 6) (i := 0) (by rfl) (by rfl) dX12_entry_5 rfl ?_
  refine v_callVE (pc' := 9) (st' := [gJ (NMm (σ 133 2) (σ 134))]) (d' := 1) (av := []) mi_mX12_takeName lk_X12_269 rfl ci_X12 kd_133 rfl (Nat.le_of_ble_eq_true rfl) (Nat.le_of_ble_eq_true rfl) dX12_entry_6 rfl rfl (q_takeName (gUp (gUp σ 0 1 0) 133 0 0) hL2 hby2) ?_
  refine w_lstore (pc' := 11) (ls' := [gR 133, gI g, gI d, gI w, gJ (NMm (σ 133 2) (σ 134)), gX 1]) (by decide) (by rfl) dX12_entry_9 rfl ?_
  refine w_aload_n (pc' := 12) (i := 0) (by rfl) (by rfl) dX12_entry_11 rfl ?_
  refine v_getI (pc' := 15) (ji := 99) rfl fg_X12_562 kd_133 dX12_entry_12 rfl ?_
  show Wp _ _ _ _ _ _ [gI (σ 133 99)]
  rw [hI.f99]
  refine w_bipush (pc' := 17) (by decide) (by decide) dX12_entry_15 rfl ?_
  refine w_icmp_eq (pc' := 20) (t := 53) dX12_entry_17 rfl rfl (fun c_17 => ?_) (fun c_17 => ?_)
  · skip
    refine w_iconst (pc' := 54) (by decide) dX12_entry_53 rfl ?_
    refine v_ireturn rfl dX12_entry_54 ?_
    first
      | (exfalso; omega)
      | exact ⟨(by first | rfl | exact congrArg gI (by omega) | exact congrArg gI (gb_t (by omega)) | exact congrArg gI (gb_f (by omega)) | (refine congrArg gI ?_; (repeat' split) <;> omega)), rfl⟩
  · skip
    refine w_aload_n (pc' := 21) (i := 0) (by rfl) (by rfl) dX12_entry_20 rfl ?_
    refine w_iload_n (pc' := 22) (i := 1) (by rfl) (by rfl) dX12_entry_21 rfl ?_
    refine v_callVE (pc' := 25) (st' := [gI (gb (0 ≤ g ∧ g < (σ 133 6)))]) (d' := 0) (av := [gI g]) mi_mX12_isParty lk_X12_276 rfl ci_X12 kd_133 rfl (Nat.le_of_ble_eq_true rfl) (Nat.le_of_ble_eq_true rfl) dX12_entry_22 rfl rfl (mo_isParty (gUp (gUp (gUp σ 0 1 0) 133 0 0) 133 2 0)  g) ?_
    refine v_if_eqB (pc' := 28) (t := 53) dX12_entry_25 rfl rfl (fun c_25 => ?_) (fun c_25 => ?_)
    · skip
      refine w_iconst (pc' := 54) (by decide) dX12_entry_53 rfl ?_
      refine v_ireturn rfl dX12_entry_54 ?_
      first
        | (exfalso; omega)
        | exact ⟨(by first | rfl | exact congrArg gI (by omega) | exact congrArg gI (gb_t (by omega)) | exact congrArg gI (gb_f (by omega)) | (refine congrArg gI ?_; (repeat' split) <;> omega)), rfl⟩
    · skip
      refine w_lload (pc' := 30) (by rfl) dX12_entry_28 rfl ?_
      refine w_lconst (n := 0) (pc' := 31) (by decide) (by decide) dX12_entry_30 rfl ?_
      refine w_lcmp (pc' := 32) dX12_entry_31 rfl ?_
      refine w_if_eq (pc' := 35) (t := 53) dX12_entry_32 rfl rfl (fun c_32 => ?_) (fun c_32 => ?_)
      · skip
        refine w_iconst (pc' := 54) (by decide) dX12_entry_53 rfl ?_
        refine v_ireturn rfl dX12_entry_54 ?_
        first
          | (exfalso; omega)
          | exact ⟨(by first | rfl | exact congrArg gI (by omega) | exact congrArg gI (gb_t (by omega)) | exact congrArg gI (gb_f (by omega)) | (refine congrArg gI ?_; (repeat' split) <;> omega)), rfl⟩
      · skip
        refine w_iload_n (pc' := 36) (i := 2) (by rfl) (by rfl) dX12_entry_35 rfl ?_
        refine v_callSE (pc' := 39) (st' := [gI (gb (0 ≤ d ∧ d ≤ 9999))]) (d' := 0) (av := [gI d]) ms_mX12_isDay st_mX12_isDay lk_X12_279 rfl rfl (Nat.le_of_ble_eq_true rfl) (Nat.le_of_ble_eq_true rfl) dX12_entry_36 rfl rfl (mo_isDay (gUp (gUp (gUp σ 0 1 0) 133 0 0) 133 2 0) d) ?_
        refine v_if_eqB (pc' := 42) (t := 53) dX12_entry_39 rfl rfl (fun c_39 => ?_) (fun c_39 => ?_)
        · skip
          refine w_iconst (pc' := 54) (by decide) dX12_entry_53 rfl ?_
          refine v_ireturn rfl dX12_entry_54 ?_
          first
            | (exfalso; omega)
            | exact ⟨(by first | rfl | exact congrArg gI (by omega) | exact congrArg gI (gb_t (by omega)) | exact congrArg gI (gb_f (by omega)) | (refine congrArg gI ?_; (repeat' split) <;> omega)), rfl⟩
        · skip
          refine w_iload_n (pc' := 43) (i := 3) (by rfl) (by rfl) dX12_entry_42 rfl ?_
          refine w_iconst (pc' := 44) (by decide) dX12_entry_43 rfl ?_
          refine w_ldc_w (pc' := 47) (by decide) ct_X12_308 dX12_entry_44 rfl ?_
          refine v_callSE (pc' := 50) (st' := [gI (gb (0 ≤ w ∧ w ≤ 1000000))]) (d' := 0) (av := [gI w, gI 0, gI 1000000]) ms_mX12_isIn st_mX12_isIn lk_X12_254 rfl rfl (Nat.le_of_ble_eq_true rfl) (Nat.le_of_ble_eq_true rfl) dX12_entry_47 rfl rfl (mo_isIn (gUp (gUp (gUp σ 0 1 0) 133 0 0) 133 2 0) w 0 1000000) ?_
          refine v_if_neB (pc' := 53) (t := 55) dX12_entry_50 rfl rfl (fun c_50 => ?_) (fun c_50 => ?_)
          · skip
            refine w_aload_n (pc' := 56) (i := 0) (by rfl) (by rfl) dX12_entry_55 rfl ?_
            refine w_getS (pc' := 59) (q := 192) fg_X12_196 kd_133 sf_X12_94 gr_133_94 dX12_entry_56 rfl ?_
            refine w_aload_n (pc' := 60) (i := 0) (by rfl) (by rfl) dX12_entry_59 rfl ?_
            refine v_getI (pc' := 63) (ji := 99) rfl fg_X12_562 kd_133 dX12_entry_60 rfl ?_
            show Wp _ _ _ _ _ _ [gI (σ 133 99), gR 192]
            rw [hI.f99]
            refine w_iload_n (pc' := 64) (i := 1) (by rfl) (by rfl) dX12_entry_63 rfl ?_
            refine w_iast (pc' := 65) kd_192 (by omega) (by omega) dX12_entry_64 rfl ?_
            refine w_aload_n (pc' := 66) (i := 0) (by rfl) (by rfl) dX12_entry_65 rfl ?_
            refine w_getS (pc' := 69) (q := 196) fg_X12_208 kd_133 sf_X12_98 gr_133_98 dX12_entry_66 rfl ?_
            refine w_aload_n (pc' := 70) (i := 0) (by rfl) (by rfl) dX12_entry_69 rfl ?_
            refine v_getI (pc' := 73) (ji := 99) rfl fg_X12_562 kd_133 dX12_entry_70 rfl ?_
            show Wp _ _ _ _ _ _ [gI (σ 133 99), gR 196]
            rw [hI.f99]
            refine w_lload (pc' := 75) (by rfl) dX12_entry_73 rfl ?_
            refine w_last (pc' := 76) kd_196 (by omega) (by omega) dX12_entry_75 rfl ?_
            refine w_aload_n (pc' := 77) (i := 0) (by rfl) (by rfl) dX12_entry_76 rfl ?_
            refine w_getS (pc' := 80) (q := 193) fg_X12_199 kd_133 sf_X12_95 gr_133_95 dX12_entry_77 rfl ?_
            refine w_aload_n (pc' := 81) (i := 0) (by rfl) (by rfl) dX12_entry_80 rfl ?_
            refine v_getI (pc' := 84) (ji := 99) rfl fg_X12_562 kd_133 dX12_entry_81 rfl ?_
            show Wp _ _ _ _ _ _ [gI (σ 133 99), gR 193]
            rw [hI.f99]
            refine w_iload_n (pc' := 85) (i := 2) (by rfl) (by rfl) dX12_entry_84 rfl ?_
            refine w_iast (pc' := 86) kd_193 (by omega) (by omega) dX12_entry_85 rfl ?_
            refine w_aload_n (pc' := 87) (i := 0) (by rfl) (by rfl) dX12_entry_86 rfl ?_
            refine w_getS (pc' := 90) (q := 194) fg_X12_202 kd_133 sf_X12_96 gr_133_96 dX12_entry_87 rfl ?_
            refine w_aload_n (pc' := 91) (i := 0) (by rfl) (by rfl) dX12_entry_90 rfl ?_
            refine v_getI (pc' := 94) (ji := 99) rfl fg_X12_562 kd_133 dX12_entry_91 rfl ?_
            show Wp _ _ _ _ _ _ [gI (σ 133 99), gR 194]
            rw [hI.f99]
            refine w_iload_n (pc' := 95) (i := 3) (by rfl) (by rfl) dX12_entry_94 rfl ?_
            refine w_iast (pc' := 96) kd_194 (by omega) (by omega) dX12_entry_95 rfl ?_
            refine w_aload_n (pc' := 97) (i := 0) (by rfl) (by rfl) dX12_entry_96 rfl ?_
            refine w_getS (pc' := 100) (q := 195) fg_X12_205 kd_133 sf_X12_97 gr_133_97 dX12_entry_97 rfl ?_
            refine w_aload_n (pc' := 101) (i := 0) (by rfl) (by rfl) dX12_entry_100 rfl ?_
            refine v_getI (pc' := 104) (ji := 99) rfl fg_X12_562 kd_133 dX12_entry_101 rfl ?_
            show Wp _ _ _ _ _ _ [gI (σ 133 99), gR 195]
            rw [hI.f99]
            refine w_aload_n (pc' := 105) (i := 0) (by rfl) (by rfl) dX12_entry_104 rfl ?_
            refine v_getI (pc' := 108) (ji := 3) rfl fg_X12_258 kd_133 dX12_entry_105 rfl ?_
            show Wp _ _ _ _ _ _ [gI (σ 133 3), gI (σ 112 8), gR 195]
            rw [hI.f3]
            refine w_iast (pc' := 109) kd_195 (by omega) (by omega) dX12_entry_108 rfl ?_
            refine w_aload_n (pc' := 110) (i := 0) (by rfl) (by rfl) dX12_entry_109 rfl ?_
            refine w_dup (pc' := 111) dX12_entry_110 rfl ?_
            refine v_getI (pc' := 114) (ji := 99) rfl fg_X12_562 kd_133 dX12_entry_111 rfl ?_
            show Wp _ _ _ _ _ _ [gI (σ 133 99), gR 133]
            rw [hI.f99]
            refine w_iconst (pc' := 115) (by decide) dX12_entry_114 rfl ?_
            refine v_iadd (pc' := 116) (by omega) dX12_entry_115 rfl ?_
            refine v_putI (pc' := 119) (ji := 99) rfl fp_X12_562 kd_133 sf_X12_99 dX12_entry_116 rfl ?_
            refine w_aload_n (pc' := 120) (i := 0) (by rfl) (by rfl) dX12_entry_119 rfl ?_
            refine v_getI (pc' := 123) (ji := 99) rfl fg_X12_562 kd_133 dX12_entry_120 rfl ?_
            show Wp _ _ _ _ _ _ [gI ((σ 112 8) + 1)]
            refine w_iconst (pc' := 124) (by decide) dX12_entry_123 rfl ?_
            refine v_isub (pc' := 125) (by omega) dX12_entry_124 rfl ?_
            refine v_ireturn rfl dX12_entry_125 ?_
            first
              | (exfalso; omega)
              | exact ⟨(by first | rfl | exact congrArg gI (by omega) | exact congrArg gI (gb_t (by omega)) | exact congrArg gI (gb_f (by omega)) | (refine congrArg gI ?_; (repeat' split) <;> omega)), rfl⟩
          · skip
            refine w_iconst (pc' := 54) (by decide) dX12_entry_53 rfl ?_
            refine v_ireturn rfl dX12_entry_54 ?_
            first
              | (exfalso; omega)
              | exact ⟨(by first | rfl | exact congrArg gI (by omega) | exact congrArg gI (gb_t (by omega)) | exact congrArg gI (gb_f (by omega)) | (refine congrArg gI ?_; (repeat' split) <;> omega)), rfl⟩
theorem i_entry {σ : gH} (hI : Inv σ) (g d w : Int)  (hP : (0 ≤ g ∧ g < σ 3 2) ∧ NMc (σ 0 1) (σ 1) ≠ -1 ∧ (0 ≤ d ∧ d ≤ 9999) ∧ (0 ≤ w ∧ w ≤ 1000000) ∧ σ 112 8 < 100) : Inv (gUp (gUp (gUp (gUp (gUp (gUp (gUp (gUp (gUp (gUp (gUp (gUp (gUp (gUp (gUp σ 0 1 0) 113 (σ 112 8) g) 114 (σ 112 8) (NMc (σ 0 1) (σ 1))) 115 (σ 112 8) d) 116 (σ 112 8) w) 117 (σ 112 8) (σ 0 4)) 112 8 (σ 112 8 + 1)) 133 0 0) 133 2 0) 192 (σ 112 8) g) 196 (σ 112 8) (NMm (σ 133 2) (σ 134))) 193 (σ 112 8) d) 194 (σ 112 8) w) 195 (σ 112 8) (σ 0 4)) 133 99 ((σ 112 8) + 1)) := by
  refine ⟨⟨⟨hI.f.day, ⟨rfl, by show (0 : Int) ≤ 0; omega, by show (0 : Int) ≤ 540; omega, fun i a b => by have b2 : i < 0 := b; omega⟩, hI.f.outs, hI.f.party, hI.f.own, hI.f.kin, hI.f.post, hI.f.gift, hI.f.worth, hI.f.mem, hI.f.mat, hI.f.vote, ?_⟩, hI.law, hI.ord⟩, hI.2.1, hI.mod⟩
  have hS := hI.f.ent
  refine ⟨?_, ?_, ?_, fun i h0 h1 => ?_⟩
  · exact rfl
  · show 0 ≤ σ 112 8 + 1
    have := hS.2.1
    omega
  · show σ 112 8 + 1 ≤ 100
    omega
  · have h2 : i < σ 112 8 + 1 := h1
    show (if i = σ 112 8 then g else σ 192 i) = (if i = σ 112 8 then g else σ 113 i) ∧ nmR ((if i = σ 112 8 then NMc (σ 0 1) (σ 1) else σ 114 i)) ((if i = σ 112 8 then NMm (σ 133 2) (σ 134) else σ 196 i)) ∧ (if i = σ 112 8 then d else σ 193 i) = (if i = σ 112 8 then d else σ 115 i) ∧ (if i = σ 112 8 then w else σ 194 i) = (if i = σ 112 8 then w else σ 116 i) ∧ (if i = σ 112 8 then σ 0 4 else σ 195 i) = (if i = σ 112 8 then σ 0 4 else σ 117 i) ∧ isP σ ((if i = σ 112 8 then g else σ 113 i)) ∧ isDy ((if i = σ 112 8 then d else σ 115 i)) ∧ 0 ≤ (if i = σ 112 8 then w else σ 116 i) ∧ (if i = σ 112 8 then w else σ 116 i) ≤ 1000000 ∧ isDy ((if i = σ 112 8 then σ 0 4 else σ 117 i))
    by_cases hi : i = σ 112 8
    · simp only [if_pos hi]
      exact ⟨trivial, (NM_both hI).2.1 hP.2.1, trivial, trivial, trivial, hP.1, hP.2.2.1, hP.2.2.2.1.1, hP.2.2.2.1.2, hI.f.day.2.1, hI.f.day.2.2⟩
    · simp only [if_neg hi]
      exact hS.2.2.2 i h0 (by omega)
theorem ci_entry (g d w : Int)  : CI Inv mX11_entry mX12_entry [gI g, gI d, gI w] := CI_reg (fun σ => (0 ≤ g ∧ g < σ 3 2) ∧ NMc (σ 0 1) (σ 1) ≠ -1 ∧ (0 ≤ d ∧ d ≤ 9999) ∧ (0 ≤ w ∧ w ≤ 1000000) ∧ σ 112 8 < 100) (fun σ => σ 112 8) (fun σ => -1) (fun σ => gUp (gUp (gUp (gUp (gUp (gUp (gUp σ 0 1 0) 113 (σ 112 8) g) 114 (σ 112 8) (NMc (σ 0 1) (σ 1))) 115 (σ 112 8) d) 116 (σ 112 8) w) 117 (σ 112 8) (σ 0 4)) 112 8 (σ 112 8 + 1)) (fun σ => gUp σ 0 1 0) (fun σ => gUp (gUp (gUp (gUp (gUp (gUp (gUp (gUp (gUp (gUp (gUp (gUp (gUp (gUp (gUp σ 0 1 0) 113 (σ 112 8) g) 114 (σ 112 8) (NMc (σ 0 1) (σ 1))) 115 (σ 112 8) d) 116 (σ 112 8) w) 117 (σ 112 8) (σ 0 4)) 112 8 (σ 112 8 + 1)) 133 0 0) 133 2 0) 192 (σ 112 8) g) 196 (σ 112 8) (NMm (σ 133 2) (σ 134))) 193 (σ 112 8) d) 194 (σ 112 8) w) 195 (σ 112 8) (σ 0 4)) 133 99 ((σ 112 8) + 1)) (fun σ => gUp (gUp (gUp σ 0 1 0) 133 0 0) 133 2 0) (fun σ hI => x_entry hI g d w ) (fun σ hI hP => m_entryT hI g d w  hP) (fun σ hI hP => m_entryF hI g d w  hP) (fun σ hI hP => i_entry hI g d w  hP) (fun σ hI _ => (show Inv (gUp (gUp (gUp σ 0 1 0) 133 0 0) 133 2 0) from ⟨⟨⟨hI.f.day, ⟨rfl, by show (0 : Int) ≤ 0; omega, by show (0 : Int) ≤ 540; omega, fun i a b => by have b2 : i < 0 := b; omega⟩, hI.f.outs, hI.f.party, hI.f.own, hI.f.kin, hI.f.post, hI.f.gift, hI.f.worth, hI.f.mem, hI.f.mat, hI.f.vote, hI.f.ent⟩, hI.law, hI.ord⟩, hI.2.1, hI.mod⟩))
section PAD
theorem k_addPartyT (σ : gH) (h0 : 0 ≤ σ 3 2) (s n : Int) (hP : (0 ≤ σ 3 2 ∧ σ 3 2 < 60) ∧ (0 ≤ s ∧ s ≤ 2) ∧ n ≠ -1) : Mt mX8_add 0 [gR 3, gI s, gJ n] σ (rE (gI (σ 3 2)) (gUp (gUp (gUp σ 4 (σ 3 2) s) 5 (σ 3 2) n) 3 2 (σ 3 2 + 1))) := by
  refine Mt.walk (ls := [gR 3, gI s, gJ n, gX 1]) pn_X8 rfl (fun _ _ h => by cases h.1) (Nat.le_of_ble_eq_true rfl) rfl ?_
  have hg1 : gCmp n (-1) = 0 ↔ n = -1 := gCmp_eq
  have hg3 : gCmp n (-1) ≠ 0 ↔ n ≠ -1 := not_congr gCmp_eq
  refine w_aload_n (pc' := 1) (i := 0) (by rfl) (by rfl) dX8_add_0 rfl ?_
  refine v_getI (pc' := 4) (ji := 2) rfl fg_X8_37 kd_3 dX8_add_1 rfl ?_
  refine w_if_lt (pc' := 7) (t := 33) dX8_add_4 rfl rfl (fun c_4 => ?_) (fun c_4 => ?_)
  · skip
    refine w_iconst (pc' := 34) (by decide) dX8_add_33 rfl ?_
    refine v_ireturn rfl dX8_add_34 ?_
    first | (exfalso; omega) | exact ⟨congrArg gI (by omega), rfl⟩
  · skip
    refine w_aload_n (pc' := 8) (i := 0) (by rfl) (by rfl) dX8_add_7 rfl ?_
    refine v_getI (pc' := 11) (ji := 2) rfl fg_X8_37 kd_3 dX8_add_8 rfl ?_
    refine w_bipush (pc' := 13) (by decide) (by decide) dX8_add_11 rfl ?_
    refine w_icmp_ge (pc' := 16) (t := 33) dX8_add_13 rfl rfl (fun c_13 => ?_) (fun c_13 => ?_)
    · skip
      refine w_iconst (pc' := 34) (by decide) dX8_add_33 rfl ?_
      refine v_ireturn rfl dX8_add_34 ?_
      first | (exfalso; omega) | exact ⟨congrArg gI (by omega), rfl⟩
    · skip
      refine w_iload_n (pc' := 17) (i := 1) (by rfl) (by rfl) dX8_add_16 rfl ?_
      refine w_if_lt (pc' := 20) (t := 33) dX8_add_17 rfl rfl (fun c_17 => ?_) (fun c_17 => ?_)
      · skip
        refine w_iconst (pc' := 34) (by decide) dX8_add_33 rfl ?_
        refine v_ireturn rfl dX8_add_34 ?_
        first | (exfalso; omega) | exact ⟨congrArg gI (by omega), rfl⟩
      · skip
        refine w_iload_n (pc' := 21) (i := 1) (by rfl) (by rfl) dX8_add_20 rfl ?_
        refine w_iconst (pc' := 22) (by decide) dX8_add_21 rfl ?_
        refine w_icmp_gt (pc' := 25) (t := 33) dX8_add_22 rfl rfl (fun c_22 => ?_) (fun c_22 => ?_)
        · skip
          refine w_iconst (pc' := 34) (by decide) dX8_add_33 rfl ?_
          refine v_ireturn rfl dX8_add_34 ?_
          first | (exfalso; omega) | exact ⟨congrArg gI (by omega), rfl⟩
        · skip
          refine w_lload_n (pc' := 26) (i := 2) (by rfl) (by rfl) dX8_add_25 rfl ?_
          refine w_ldc2 (pc' := 29) (by decide) ct_X8_35 dX8_add_26 rfl ?_
          refine w_lcmp (pc' := 30) dX8_add_29 rfl ?_
          refine w_if_ne (pc' := 33) (t := 35) dX8_add_30 rfl rfl (fun c_30 => ?_) (fun c_30 => ?_)
          · skip
            refine w_aload_n (pc' := 36) (i := 0) (by rfl) (by rfl) dX8_add_35 rfl ?_
            refine w_getS (pc' := 39) (q := 4) fg_X8_9 kd_3 sf_X8_0 gr_3_0 dX8_add_36 rfl ?_
            refine w_aload_n (pc' := 40) (i := 0) (by rfl) (by rfl) dX8_add_39 rfl ?_
            refine v_getI (pc' := 43) (ji := 2) rfl fg_X8_37 kd_3 dX8_add_40 rfl ?_
            refine w_iload_n (pc' := 44) (i := 1) (by rfl) (by rfl) dX8_add_43 rfl ?_
            refine w_iast (pc' := 45) kd_4 (by omega) (by omega) dX8_add_44 rfl ?_
            refine w_aload_n (pc' := 46) (i := 0) (by rfl) (by rfl) dX8_add_45 rfl ?_
            refine w_getS (pc' := 49) (q := 5) fg_X8_15 kd_3 sf_X8_1 gr_3_1 dX8_add_46 rfl ?_
            refine w_aload_n (pc' := 50) (i := 0) (by rfl) (by rfl) dX8_add_49 rfl ?_
            refine v_getI (pc' := 53) (ji := 2) rfl fg_X8_37 kd_3 dX8_add_50 rfl ?_
            show Wp _ _ _ _ _ _ [gI (σ 3 2), gR 5]
            refine w_lload_n (pc' := 54) (i := 2) (by rfl) (by rfl) dX8_add_53 rfl ?_
            refine w_last (pc' := 55) kd_5 (by omega) (by omega) dX8_add_54 rfl ?_
            refine w_aload_n (pc' := 56) (i := 0) (by rfl) (by rfl) dX8_add_55 rfl ?_
            refine w_dup (pc' := 57) dX8_add_56 rfl ?_
            refine v_getI (pc' := 60) (ji := 2) rfl fg_X8_37 kd_3 dX8_add_57 rfl ?_
            show Wp _ _ _ _ _ _ [gI (σ 3 2), gR 3]
            refine w_iconst (pc' := 61) (by decide) dX8_add_60 rfl ?_
            refine v_iadd (pc' := 62) (by omega) dX8_add_61 rfl ?_
            refine v_putI (pc' := 65) (ji := 2) rfl fp_X8_37 kd_3 sf_X8_2 dX8_add_62 rfl ?_
            refine w_aload_n (pc' := 66) (i := 0) (by rfl) (by rfl) dX8_add_65 rfl ?_
            refine v_getI (pc' := 69) (ji := 2) rfl fg_X8_37 kd_3 dX8_add_66 rfl ?_
            show Wp _ _ _ _ _ _ [gI ((σ 3 2) + 1)]
            refine w_iconst (pc' := 70) (by decide) dX8_add_69 rfl ?_
            refine v_isub (pc' := 71) (by omega) dX8_add_70 rfl ?_
            refine v_ireturn rfl dX8_add_71 ?_
            first | (exfalso; omega) | exact ⟨congrArg gI (by omega), rfl⟩
          · skip
            refine w_iconst (pc' := 34) (by decide) dX8_add_33 rfl ?_
            refine v_ireturn rfl dX8_add_34 ?_
            first | (exfalso; omega) | exact ⟨congrArg gI (by omega), rfl⟩
theorem k_addPartyF (σ : gH) (h0 : 0 ≤ σ 3 2) (s n : Int) (hP : ¬ ((0 ≤ σ 3 2 ∧ σ 3 2 < 60) ∧ (0 ≤ s ∧ s ≤ 2) ∧ n ≠ -1)) : Mt mX8_add 0 [gR 3, gI s, gJ n] σ (rE (gI (-1)) σ) := by
  refine Mt.walk (ls := [gR 3, gI s, gJ n, gX 1]) pn_X8 rfl (fun _ _ h => by cases h.1) (Nat.le_of_ble_eq_true rfl) rfl ?_
  have hg1 : gCmp n (-1) = 0 ↔ n = -1 := gCmp_eq
  have hg3 : gCmp n (-1) ≠ 0 ↔ n ≠ -1 := not_congr gCmp_eq
  refine w_aload_n (pc' := 1) (i := 0) (by rfl) (by rfl) dX8_add_0 rfl ?_
  refine v_getI (pc' := 4) (ji := 2) rfl fg_X8_37 kd_3 dX8_add_1 rfl ?_
  refine w_if_lt (pc' := 7) (t := 33) dX8_add_4 rfl rfl (fun c_4 => ?_) (fun c_4 => ?_)
  · skip
    refine w_iconst (pc' := 34) (by decide) dX8_add_33 rfl ?_
    refine v_ireturn rfl dX8_add_34 ?_
    first | (exfalso; omega) | exact ⟨rfl, rfl⟩
  · skip
    refine w_aload_n (pc' := 8) (i := 0) (by rfl) (by rfl) dX8_add_7 rfl ?_
    refine v_getI (pc' := 11) (ji := 2) rfl fg_X8_37 kd_3 dX8_add_8 rfl ?_
    refine w_bipush (pc' := 13) (by decide) (by decide) dX8_add_11 rfl ?_
    refine w_icmp_ge (pc' := 16) (t := 33) dX8_add_13 rfl rfl (fun c_13 => ?_) (fun c_13 => ?_)
    · skip
      refine w_iconst (pc' := 34) (by decide) dX8_add_33 rfl ?_
      refine v_ireturn rfl dX8_add_34 ?_
      first | (exfalso; omega) | exact ⟨rfl, rfl⟩
    · skip
      refine w_iload_n (pc' := 17) (i := 1) (by rfl) (by rfl) dX8_add_16 rfl ?_
      refine w_if_lt (pc' := 20) (t := 33) dX8_add_17 rfl rfl (fun c_17 => ?_) (fun c_17 => ?_)
      · skip
        refine w_iconst (pc' := 34) (by decide) dX8_add_33 rfl ?_
        refine v_ireturn rfl dX8_add_34 ?_
        first | (exfalso; omega) | exact ⟨rfl, rfl⟩
      · skip
        refine w_iload_n (pc' := 21) (i := 1) (by rfl) (by rfl) dX8_add_20 rfl ?_
        refine w_iconst (pc' := 22) (by decide) dX8_add_21 rfl ?_
        refine w_icmp_gt (pc' := 25) (t := 33) dX8_add_22 rfl rfl (fun c_22 => ?_) (fun c_22 => ?_)
        · skip
          refine w_iconst (pc' := 34) (by decide) dX8_add_33 rfl ?_
          refine v_ireturn rfl dX8_add_34 ?_
          first | (exfalso; omega) | exact ⟨rfl, rfl⟩
        · skip
          refine w_lload_n (pc' := 26) (i := 2) (by rfl) (by rfl) dX8_add_25 rfl ?_
          refine w_ldc2 (pc' := 29) (by decide) ct_X8_35 dX8_add_26 rfl ?_
          refine w_lcmp (pc' := 30) dX8_add_29 rfl ?_
          refine w_if_ne (pc' := 33) (t := 35) dX8_add_30 rfl rfl (fun c_30 => ?_) (fun c_30 => ?_)
          · skip
            refine w_aload_n (pc' := 36) (i := 0) (by rfl) (by rfl) dX8_add_35 rfl ?_
            refine w_getS (pc' := 39) (q := 4) fg_X8_9 kd_3 sf_X8_0 gr_3_0 dX8_add_36 rfl ?_
            refine w_aload_n (pc' := 40) (i := 0) (by rfl) (by rfl) dX8_add_39 rfl ?_
            refine v_getI (pc' := 43) (ji := 2) rfl fg_X8_37 kd_3 dX8_add_40 rfl ?_
            refine w_iload_n (pc' := 44) (i := 1) (by rfl) (by rfl) dX8_add_43 rfl ?_
            refine w_iast (pc' := 45) kd_4 (by omega) (by omega) dX8_add_44 rfl ?_
            refine w_aload_n (pc' := 46) (i := 0) (by rfl) (by rfl) dX8_add_45 rfl ?_
            refine w_getS (pc' := 49) (q := 5) fg_X8_15 kd_3 sf_X8_1 gr_3_1 dX8_add_46 rfl ?_
            refine w_aload_n (pc' := 50) (i := 0) (by rfl) (by rfl) dX8_add_49 rfl ?_
            refine v_getI (pc' := 53) (ji := 2) rfl fg_X8_37 kd_3 dX8_add_50 rfl ?_
            show Wp _ _ _ _ _ _ [gI (σ 3 2), gR 5]
            refine w_lload_n (pc' := 54) (i := 2) (by rfl) (by rfl) dX8_add_53 rfl ?_
            refine w_last (pc' := 55) kd_5 (by omega) (by omega) dX8_add_54 rfl ?_
            refine w_aload_n (pc' := 56) (i := 0) (by rfl) (by rfl) dX8_add_55 rfl ?_
            refine w_dup (pc' := 57) dX8_add_56 rfl ?_
            refine v_getI (pc' := 60) (ji := 2) rfl fg_X8_37 kd_3 dX8_add_57 rfl ?_
            show Wp _ _ _ _ _ _ [gI (σ 3 2), gR 3]
            refine w_iconst (pc' := 61) (by decide) dX8_add_60 rfl ?_
            refine v_iadd (pc' := 62) (by omega) dX8_add_61 rfl ?_
            refine v_putI (pc' := 65) (ji := 2) rfl fp_X8_37 kd_3 sf_X8_2 dX8_add_62 rfl ?_
            refine w_aload_n (pc' := 66) (i := 0) (by rfl) (by rfl) dX8_add_65 rfl ?_
            refine v_getI (pc' := 69) (ji := 2) rfl fg_X8_37 kd_3 dX8_add_66 rfl ?_
            show Wp _ _ _ _ _ _ [gI ((σ 3 2) + 1)]
            refine w_iconst (pc' := 70) (by decide) dX8_add_69 rfl ?_
            refine v_isub (pc' := 71) (by omega) dX8_add_70 rfl ?_
            refine v_ireturn rfl dX8_add_71 ?_
            first | (exfalso; omega) | exact ⟨rfl, rfl⟩
          · skip
            refine w_iconst (pc' := 34) (by decide) dX8_add_33 rfl ?_
            refine v_ireturn rfl dX8_add_34 ?_
            first | (exfalso; omega) | exact ⟨rfl, rfl⟩
end PAD
theorem x_party {σ : gH} (hI : Inv σ) (s : Int)  : Mt mX11_party 30 [gR 0, gI s] σ (fun v σ' => ((σ 3 2 < 60 ∧ (0 ≤ s ∧ s ≤ 2) ∧ NMc (σ 0 1) (σ 1) ≠ -1) ∧ v = gI (σ 3 2) ∧ σ' = gUp (gUp (gUp (gUp σ 0 1 0) 4 (σ 3 2) s) 5 (σ 3 2) (NMc (σ 0 1) (σ 1))) 3 2 (σ 3 2 + 1)) ∨ (¬ (σ 3 2 < 60 ∧ (0 ≤ s ∧ s ≤ 2) ∧ NMc (σ 0 1) (σ 1) ≠ -1) ∧ v = gI (-1) ∧ σ' = gUp σ 0 1 0)) := by
  refine Mt.walk (ls := [gR 0, gI s]) pn_X11 rfl (fun _ _ h => by rcases h with h | h <;> exact absurd h.2.1 (by intro h; cases h)) (Nat.le_of_ble_eq_true rfl) rfl ?_
  have hday := hI.f.day
  unfold S_day at hday
  have hp := hI.f.hp
  have hp0 := hI.f.party.2.1
  have hT := hI.f.tape.2.1
  have hT2 := hI.f.tape.2.2.1
  have f6 := hI.f6
  have hm0 := hI.f.mem.2.1
  have hm1 := hI.f.mem.2.2.1
  have ht0 := hI.f.mat.2.1
  have ht1 := hI.f.mat.2.2.1
  have hv0 := hI.f.vote.2.1
  have hv1 := hI.f.vote.2.2.1
  have he0 := hI.f.ent.2.1
  have he1 := hI.f.ent.2.2.1
  have hL : 0 ≤ σ 0 1 ∧ σ 0 1 ≤ 540 := ⟨by omega, by omega⟩
  obtain ⟨hnm, _, hL2, hby2⟩ := NM_both hI
  have hg1 : gCmp (NMc (σ 0 1) (σ 1)) (-1) = 0 ↔ NMc (σ 0 1) (σ 1) = -1 := gCmp_eq
  have hg2 : gCmp (NMm (σ 133 2) (σ 134)) 0 = 0 ↔ NMm (σ 133 2) (σ 134) = 0 := gCmp_eq
  have hg3 : gCmp (NMc (σ 0 1) (σ 1)) (-1) ≠ 0 ↔ NMc (σ 0 1) (σ 1) ≠ -1 := not_congr gCmp_eq
  have hg4 : gCmp (NMm (σ 133 2) (σ 134)) 0 ≠ 0 ↔ NMm (σ 133 2) (σ 134) ≠ 0 := not_congr gCmp_eq
  have hst := hI.mod.1
  have f14 := hI.f14
  have hn1 := hI.f.own.2.1
  have hn2 := hI.f.own.2.2.1
  refine w_aload_n (pc' := 1) (i := 0) (by rfl) (by rfl) dX11_party_0 rfl ?_
  refine w_getS (pc' := 4) (q := 3) fg_X11_21 kd_0 sf_X11_5 gr_0_5 dX11_party_1 rfl ?_
  refine w_iload_n (pc' := 5) (i := 1) (by rfl) (by rfl) dX11_party_4 rfl ?_
  refine w_aload_n (pc' := 6) (i := 0) (by rfl) (by rfl) dX11_party_5 rfl ?_
  refine v_callVE (pc' := 9) (st' := [gJ (NMc (σ 0 1) (σ 1)), gI s, gR 3]) (d' := 1) (av := []) mi_mX11_takeName lk_X11_99 rfl ci_X11 kd_0 rfl (Nat.le_of_ble_eq_true rfl) (Nat.le_of_ble_eq_true rfl) dX11_party_6 rfl rfl (k_takeName σ hL) ?_
  by_cases c_9 : (0 ≤ σ 3 2 ∧ σ 3 2 < 60) ∧ (0 ≤ s ∧ s ≤ 2) ∧ NMc (σ 0 1) (σ 1) ≠ -1
  · skip
    refine v_callVE (pc' := 12) (st' := [gI (σ 3 2)]) (d' := 0) (av := [gI s, gJ (NMc (σ 0 1) (σ 1))]) mi_mX8_add lk_X11_103 rfl ci_X8 kd_3 rfl (Nat.le_of_ble_eq_true rfl) (Nat.le_of_ble_eq_true rfl) dX11_party_9 rfl rfl (k_addPartyT (gUp σ 0 1 0) (show 0 ≤ σ 3 2 by omega) s (NMc (σ 0 1) (σ 1)) c_9) ?_
    show Wp _ _ _ (gUp (gUp (gUp (gUp σ 0 1 0) 4 (σ 3 2) s) 5 (σ 3 2) (NMc (σ 0 1) (σ 1))) 3 2 (σ 3 2 + 1)) _ _ [gI (σ 3 2)]
    refine v_ireturn rfl dX11_party_12 ?_
    first
      | (exfalso; omega)
      | exact .inl ⟨by omega, (by first | rfl | exact congrArg gI (by omega) | exact congrArg gI (gb_t (by omega)) | exact congrArg gI (gb_f (by omega)) | (refine congrArg gI ?_; (repeat' split) <;> omega)), rfl⟩
      | exact .inr ⟨by omega, (by first | rfl | exact congrArg gI (by omega) | exact congrArg gI (gb_t (by omega)) | exact congrArg gI (gb_f (by omega)) | (refine congrArg gI ?_; (repeat' split) <;> omega)), rfl⟩
  · skip
    refine v_callVE (pc' := 12) (st' := [gI (-1)]) (d' := 0) (av := [gI s, gJ (NMc (σ 0 1) (σ 1))]) mi_mX8_add lk_X11_103 rfl ci_X8 kd_3 rfl (Nat.le_of_ble_eq_true rfl) (Nat.le_of_ble_eq_true rfl) dX11_party_9 rfl rfl (k_addPartyF (gUp σ 0 1 0) (show 0 ≤ σ 3 2 by omega) s (NMc (σ 0 1) (σ 1)) c_9) ?_
    show Wp _ _ _ (gUp σ 0 1 0) _ _ [gI (-1)]
    refine v_ireturn rfl dX11_party_12 ?_
    first
      | (exfalso; omega)
      | exact .inl ⟨by omega, (by first | rfl | exact congrArg gI (by omega) | exact congrArg gI (gb_t (by omega)) | exact congrArg gI (gb_f (by omega)) | (refine congrArg gI ?_; (repeat' split) <;> omega)), rfl⟩
      | exact .inr ⟨by omega, (by first | rfl | exact congrArg gI (by omega) | exact congrArg gI (gb_t (by omega)) | exact congrArg gI (gb_f (by omega)) | (refine congrArg gI ?_; (repeat' split) <;> omega)), rfl⟩
theorem m_partyT {σ : gH} (hI : Inv σ) (s : Int)  (hP : σ 3 2 < 60 ∧ (0 ≤ s ∧ s ≤ 2) ∧ NMc (σ 0 1) (σ 1) ≠ -1) : Mt mX12_party 30 [gR 133, gI s] (gUp (gUp (gUp (gUp σ 0 1 0) 4 (σ 3 2) s) 5 (σ 3 2) (NMc (σ 0 1) (σ 1))) 3 2 (σ 3 2 + 1)) (rE (gI (σ 3 2)) (gUp (gUp (gUp (gUp (gUp (gUp (gUp (gUp (gUp (gUp σ 0 1 0) 4 (σ 3 2) s) 5 (σ 3 2) (NMc (σ 0 1) (σ 1))) 3 2 (σ 3 2 + 1)) 133 0 0) 133 2 0) 135 (σ 3 2) s) 136 (σ 3 2) (NMm (σ 133 2) (σ 134))) 133 6 ((σ 3 2) + 1)) 133 7 ((σ 133 7) + 1))) := by
  refine Mt.walk (ls := [gR 133, gI s, gX 1, gX 1]) pn_X12 rfl (fun _ _ h => by cases h.1) (Nat.le_of_ble_eq_true rfl) rfl ?_
  have hday := hI.f.day
  unfold S_day at hday
  have hp := hI.f.hp
  have hp0 := hI.f.party.2.1
  have hT := hI.f.tape.2.1
  have hT2 := hI.f.tape.2.2.1
  have f6 := hI.f6
  have hm0 := hI.f.mem.2.1
  have hm1 := hI.f.mem.2.2.1
  have ht0 := hI.f.mat.2.1
  have ht1 := hI.f.mat.2.2.1
  have hv0 := hI.f.vote.2.1
  have hv1 := hI.f.vote.2.2.1
  have he0 := hI.f.ent.2.1
  have he1 := hI.f.ent.2.2.1
  have hL : 0 ≤ σ 0 1 ∧ σ 0 1 ≤ 540 := ⟨by omega, by omega⟩
  obtain ⟨hnm, _, hL2, hby2⟩ := NM_both hI
  have hg1 : gCmp (NMc (σ 0 1) (σ 1)) (-1) = 0 ↔ NMc (σ 0 1) (σ 1) = -1 := gCmp_eq
  have hg2 : gCmp (NMm (σ 133 2) (σ 134)) 0 = 0 ↔ NMm (σ 133 2) (σ 134) = 0 := gCmp_eq
  have hg3 : gCmp (NMc (σ 0 1) (σ 1)) (-1) ≠ 0 ↔ NMc (σ 0 1) (σ 1) ≠ -1 := not_congr gCmp_eq
  have hg4 : gCmp (NMm (σ 133 2) (σ 134)) 0 ≠ 0 ↔ NMm (σ 133 2) (σ 134) ≠ 0 := not_congr gCmp_eq
  have hst := hI.mod.1
  have f14 := hI.f14
  have hn1 := hI.f.own.2.1
  have hn2 := hI.f.own.2.2.1
  refine w_aload_n (pc' := 1) (i := 0) (by rfl) (by rfl) dX12_party_0 rfl ?_
  refine w_iconst (pc' := 2) (by decide) dX12_party_1 rfl ?_
  refine v_putI (pc' := 5) (ji := 0) rfl fp_X12_244 kd_133 sf_X12_0 dX12_party_2 rfl ?_
  refine w_aload_n (pc' := 6) (i := 0) (by rfl) (by rfl) dX12_party_5 rfl ?_
  refine v_callVE (pc' := 9) (st' := [gJ (NMm (σ 133 2) (σ 134))]) (d' := 1) (av := []) mi_mX12_takeName lk_X12_269 rfl ci_X12 kd_133 rfl (Nat.le_of_ble_eq_true rfl) (Nat.le_of_ble_eq_true rfl) dX12_party_6 rfl rfl (q_takeName (gUp (gUp (gUp (gUp (gUp σ 0 1 0) 4 (σ 3 2) s) 5 (σ 3 2) (NMc (σ 0 1) (σ 1))) 3 2 (σ 3 2 + 1)) 133 0 0) hL2 hby2) ?_
  refine w_lstore_n (pc' := 10) (i := 2) (ls' := [gR 133, gI s, gJ (NMm (σ 133 2) (σ 134)), gX 1]) (by rfl) (by decide) (by rfl) dX12_party_9 rfl ?_
  refine w_aload_n (pc' := 11) (i := 0) (by rfl) (by rfl) dX12_party_10 rfl ?_
  refine v_getI (pc' := 14) (ji := 6) rfl fg_X12_273 kd_133 dX12_party_11 rfl ?_
  show Wp _ _ _ _ _ _ [gI (σ 133 6)]
  rw [hI.f6]
  refine w_bipush (pc' := 16) (by decide) (by decide) dX12_party_14 rfl ?_
  refine w_icmp_eq (pc' := 19) (t := 34) dX12_party_16 rfl rfl (fun c_16 => ?_) (fun c_16 => ?_)
  · skip
    refine w_iconst (pc' := 35) (by decide) dX12_party_34 rfl ?_
    refine v_ireturn rfl dX12_party_35 ?_
    first
      | (exfalso; omega)
      | exact ⟨(by first | rfl | exact congrArg gI (by omega) | exact congrArg gI (gb_t (by omega)) | exact congrArg gI (gb_f (by omega)) | (refine congrArg gI ?_; (repeat' split) <;> omega)), rfl⟩
  · skip
    refine w_iload_n (pc' := 20) (i := 1) (by rfl) (by rfl) dX12_party_19 rfl ?_
    refine w_iconst (pc' := 21) (by decide) dX12_party_20 rfl ?_
    refine w_iconst (pc' := 22) (by decide) dX12_party_21 rfl ?_
    refine v_callSE (pc' := 25) (st' := [gI (gb (0 ≤ s ∧ s ≤ 2))]) (d' := 0) (av := [gI s, gI 0, gI 2]) ms_mX12_isIn st_mX12_isIn lk_X12_254 rfl rfl (Nat.le_of_ble_eq_true rfl) (Nat.le_of_ble_eq_true rfl) dX12_party_22 rfl rfl (mo_isIn (gUp (gUp (gUp (gUp (gUp (gUp σ 0 1 0) 4 (σ 3 2) s) 5 (σ 3 2) (NMc (σ 0 1) (σ 1))) 3 2 (σ 3 2 + 1)) 133 0 0) 133 2 0) s 0 2) ?_
    refine v_if_eqB (pc' := 28) (t := 34) dX12_party_25 rfl rfl (fun c_25 => ?_) (fun c_25 => ?_)
    · skip
      refine w_iconst (pc' := 35) (by decide) dX12_party_34 rfl ?_
      refine v_ireturn rfl dX12_party_35 ?_
      first
        | (exfalso; omega)
        | exact ⟨(by first | rfl | exact congrArg gI (by omega) | exact congrArg gI (gb_t (by omega)) | exact congrArg gI (gb_f (by omega)) | (refine congrArg gI ?_; (repeat' split) <;> omega)), rfl⟩
    · skip
      refine w_lload_n (pc' := 29) (i := 2) (by rfl) (by rfl) dX12_party_28 rfl ?_
      refine w_lconst (n := 0) (pc' := 30) (by decide) (by decide) dX12_party_29 rfl ?_
      refine w_lcmp (pc' := 31) dX12_party_30 rfl ?_
      refine w_if_ne (pc' := 34) (t := 36) dX12_party_31 rfl rfl (fun c_31 => ?_) (fun c_31 => ?_)
      · skip
        refine w_aload_n (pc' := 37) (i := 0) (by rfl) (by rfl) dX12_party_36 rfl ?_
        refine w_getS (pc' := 40) (q := 135) fg_X12_13 kd_133 sf_X12_4 gr_133_4 dX12_party_37 rfl ?_
        refine w_aload_n (pc' := 41) (i := 0) (by rfl) (by rfl) dX12_party_40 rfl ?_
        refine v_getI (pc' := 44) (ji := 6) rfl fg_X12_273 kd_133 dX12_party_41 rfl ?_
        show Wp _ _ _ _ _ _ [gI (σ 133 6), gR 135]
        rw [hI.f6]
        refine w_iload_n (pc' := 45) (i := 1) (by rfl) (by rfl) dX12_party_44 rfl ?_
        refine w_iast (pc' := 46) kd_135 (by omega) (by omega) dX12_party_45 rfl ?_
        refine w_aload_n (pc' := 47) (i := 0) (by rfl) (by rfl) dX12_party_46 rfl ?_
        refine w_getS (pc' := 50) (q := 136) fg_X12_16 kd_133 sf_X12_5 gr_133_5 dX12_party_47 rfl ?_
        refine w_aload_n (pc' := 51) (i := 0) (by rfl) (by rfl) dX12_party_50 rfl ?_
        refine v_getI (pc' := 54) (ji := 6) rfl fg_X12_273 kd_133 dX12_party_51 rfl ?_
        show Wp _ _ _ _ _ _ [gI (σ 133 6), gR 136]
        rw [hI.f6]
        refine w_lload_n (pc' := 55) (i := 2) (by rfl) (by rfl) dX12_party_54 rfl ?_
        refine w_last (pc' := 56) kd_136 (by omega) (by omega) dX12_party_55 rfl ?_
        refine w_aload_n (pc' := 57) (i := 0) (by rfl) (by rfl) dX12_party_56 rfl ?_
        refine w_dup (pc' := 58) dX12_party_57 rfl ?_
        refine v_getI (pc' := 61) (ji := 6) rfl fg_X12_273 kd_133 dX12_party_58 rfl ?_
        show Wp _ _ _ _ _ _ [gI (σ 133 6), gR 133]
        rw [hI.f6]
        refine w_iconst (pc' := 62) (by decide) dX12_party_61 rfl ?_
        refine v_iadd (pc' := 63) (by omega) dX12_party_62 rfl ?_
        refine v_putI (pc' := 66) (ji := 6) rfl fp_X12_273 kd_133 sf_X12_6 dX12_party_63 rfl ?_
        refine w_aload_n (pc' := 67) (i := 0) (by rfl) (by rfl) dX12_party_66 rfl ?_
        refine w_dup (pc' := 68) dX12_party_67 rfl ?_
        refine v_getI (pc' := 71) (ji := 7) rfl fg_X12_20 kd_133 dX12_party_68 rfl ?_
        show Wp _ _ _ _ _ _ [gI (σ 133 7), gR 133]
        refine w_iconst (pc' := 72) (by decide) dX12_party_71 rfl ?_
        refine v_iadd (pc' := 73) (by omega) dX12_party_72 rfl ?_
        refine v_putI (pc' := 76) (ji := 7) rfl fp_X12_20 kd_133 sf_X12_7 dX12_party_73 rfl ?_
        refine w_aload_n (pc' := 77) (i := 0) (by rfl) (by rfl) dX12_party_76 rfl ?_
        refine v_getI (pc' := 80) (ji := 6) rfl fg_X12_273 kd_133 dX12_party_77 rfl ?_
        show Wp _ _ _ _ _ _ [gI ((σ 3 2) + 1)]
        refine w_iconst (pc' := 81) (by decide) dX12_party_80 rfl ?_
        refine v_isub (pc' := 82) (by omega) dX12_party_81 rfl ?_
        refine v_ireturn rfl dX12_party_82 ?_
        first
          | (exfalso; omega)
          | exact ⟨(by first | rfl | exact congrArg gI (by omega) | exact congrArg gI (gb_t (by omega)) | exact congrArg gI (gb_f (by omega)) | (refine congrArg gI ?_; (repeat' split) <;> omega)), rfl⟩
      · skip
        refine w_iconst (pc' := 35) (by decide) dX12_party_34 rfl ?_
        refine v_ireturn rfl dX12_party_35 ?_
        first
          | (exfalso; omega)
          | exact ⟨(by first | rfl | exact congrArg gI (by omega) | exact congrArg gI (gb_t (by omega)) | exact congrArg gI (gb_f (by omega)) | (refine congrArg gI ?_; (repeat' split) <;> omega)), rfl⟩
theorem m_partyF {σ : gH} (hI : Inv σ) (s : Int)  (hP : ¬ (σ 3 2 < 60 ∧ (0 ≤ s ∧ s ≤ 2) ∧ NMc (σ 0 1) (σ 1) ≠ -1)) : Mt mX12_party 30 [gR 133, gI s] (gUp σ 0 1 0) (rE (gI (-1)) (gUp (gUp (gUp σ 0 1 0) 133 0 0) 133 2 0)) := by
  refine Mt.walk (ls := [gR 133, gI s, gX 1, gX 1]) pn_X12 rfl (fun _ _ h => by cases h.1) (Nat.le_of_ble_eq_true rfl) rfl ?_
  have hday := hI.f.day
  unfold S_day at hday
  have hp := hI.f.hp
  have hp0 := hI.f.party.2.1
  have hT := hI.f.tape.2.1
  have hT2 := hI.f.tape.2.2.1
  have f6 := hI.f6
  have hm0 := hI.f.mem.2.1
  have hm1 := hI.f.mem.2.2.1
  have ht0 := hI.f.mat.2.1
  have ht1 := hI.f.mat.2.2.1
  have hv0 := hI.f.vote.2.1
  have hv1 := hI.f.vote.2.2.1
  have he0 := hI.f.ent.2.1
  have he1 := hI.f.ent.2.2.1
  have hL : 0 ≤ σ 0 1 ∧ σ 0 1 ≤ 540 := ⟨by omega, by omega⟩
  obtain ⟨hnm, _, hL2, hby2⟩ := NM_both hI
  have hg1 : gCmp (NMc (σ 0 1) (σ 1)) (-1) = 0 ↔ NMc (σ 0 1) (σ 1) = -1 := gCmp_eq
  have hg2 : gCmp (NMm (σ 133 2) (σ 134)) 0 = 0 ↔ NMm (σ 133 2) (σ 134) = 0 := gCmp_eq
  have hg3 : gCmp (NMc (σ 0 1) (σ 1)) (-1) ≠ 0 ↔ NMc (σ 0 1) (σ 1) ≠ -1 := not_congr gCmp_eq
  have hg4 : gCmp (NMm (σ 133 2) (σ 134)) 0 ≠ 0 ↔ NMm (σ 133 2) (σ 134) ≠ 0 := not_congr gCmp_eq
  have hst := hI.mod.1
  have f14 := hI.f14
  have hn1 := hI.f.own.2.1
  have hn2 := hI.f.own.2.2.1
  refine w_aload_n (pc' := 1) (i := 0) (by rfl) (by rfl) dX12_party_0 rfl ?_
  refine w_iconst (pc' := 2) (by decide) dX12_party_1 rfl ?_
  refine v_putI (pc' := 5) (ji := 0) rfl fp_X12_244 kd_133 sf_X12_0 dX12_party_2 rfl ?_
  refine w_aload_n (pc' := 6) (i := 0) (by rfl) (by rfl) dX12_party_5 rfl ?_
  refine v_callVE (pc' := 9) (st' := [gJ (NMm (σ 133 2) (σ 134))]) (d' := 1) (av := []) mi_mX12_takeName lk_X12_269 rfl ci_X12 kd_133 rfl (Nat.le_of_ble_eq_true rfl) (Nat.le_of_ble_eq_true rfl) dX12_party_6 rfl rfl (q_takeName (gUp (gUp σ 0 1 0) 133 0 0) hL2 hby2) ?_
  refine w_lstore_n (pc' := 10) (i := 2) (ls' := [gR 133, gI s, gJ (NMm (σ 133 2) (σ 134)), gX 1]) (by rfl) (by decide) (by rfl) dX12_party_9 rfl ?_
  refine w_aload_n (pc' := 11) (i := 0) (by rfl) (by rfl) dX12_party_10 rfl ?_
  refine v_getI (pc' := 14) (ji := 6) rfl fg_X12_273 kd_133 dX12_party_11 rfl ?_
  show Wp _ _ _ _ _ _ [gI (σ 133 6)]
  rw [hI.f6]
  refine w_bipush (pc' := 16) (by decide) (by decide) dX12_party_14 rfl ?_
  refine w_icmp_eq (pc' := 19) (t := 34) dX12_party_16 rfl rfl (fun c_16 => ?_) (fun c_16 => ?_)
  · skip
    refine w_iconst (pc' := 35) (by decide) dX12_party_34 rfl ?_
    refine v_ireturn rfl dX12_party_35 ?_
    first
      | (exfalso; omega)
      | exact ⟨(by first | rfl | exact congrArg gI (by omega) | exact congrArg gI (gb_t (by omega)) | exact congrArg gI (gb_f (by omega)) | (refine congrArg gI ?_; (repeat' split) <;> omega)), rfl⟩
  · skip
    refine w_iload_n (pc' := 20) (i := 1) (by rfl) (by rfl) dX12_party_19 rfl ?_
    refine w_iconst (pc' := 21) (by decide) dX12_party_20 rfl ?_
    refine w_iconst (pc' := 22) (by decide) dX12_party_21 rfl ?_
    refine v_callSE (pc' := 25) (st' := [gI (gb (0 ≤ s ∧ s ≤ 2))]) (d' := 0) (av := [gI s, gI 0, gI 2]) ms_mX12_isIn st_mX12_isIn lk_X12_254 rfl rfl (Nat.le_of_ble_eq_true rfl) (Nat.le_of_ble_eq_true rfl) dX12_party_22 rfl rfl (mo_isIn (gUp (gUp (gUp σ 0 1 0) 133 0 0) 133 2 0) s 0 2) ?_
    refine v_if_eqB (pc' := 28) (t := 34) dX12_party_25 rfl rfl (fun c_25 => ?_) (fun c_25 => ?_)
    · skip
      refine w_iconst (pc' := 35) (by decide) dX12_party_34 rfl ?_
      refine v_ireturn rfl dX12_party_35 ?_
      first
        | (exfalso; omega)
        | exact ⟨(by first | rfl | exact congrArg gI (by omega) | exact congrArg gI (gb_t (by omega)) | exact congrArg gI (gb_f (by omega)) | (refine congrArg gI ?_; (repeat' split) <;> omega)), rfl⟩
    · skip
      refine w_lload_n (pc' := 29) (i := 2) (by rfl) (by rfl) dX12_party_28 rfl ?_
      refine w_lconst (n := 0) (pc' := 30) (by decide) (by decide) dX12_party_29 rfl ?_
      refine w_lcmp (pc' := 31) dX12_party_30 rfl ?_
      refine w_if_ne (pc' := 34) (t := 36) dX12_party_31 rfl rfl (fun c_31 => ?_) (fun c_31 => ?_)
      · skip
        refine w_aload_n (pc' := 37) (i := 0) (by rfl) (by rfl) dX12_party_36 rfl ?_
        refine w_getS (pc' := 40) (q := 135) fg_X12_13 kd_133 sf_X12_4 gr_133_4 dX12_party_37 rfl ?_
        refine w_aload_n (pc' := 41) (i := 0) (by rfl) (by rfl) dX12_party_40 rfl ?_
        refine v_getI (pc' := 44) (ji := 6) rfl fg_X12_273 kd_133 dX12_party_41 rfl ?_
        show Wp _ _ _ _ _ _ [gI (σ 133 6), gR 135]
        rw [hI.f6]
        refine w_iload_n (pc' := 45) (i := 1) (by rfl) (by rfl) dX12_party_44 rfl ?_
        refine w_iast (pc' := 46) kd_135 (by omega) (by omega) dX12_party_45 rfl ?_
        refine w_aload_n (pc' := 47) (i := 0) (by rfl) (by rfl) dX12_party_46 rfl ?_
        refine w_getS (pc' := 50) (q := 136) fg_X12_16 kd_133 sf_X12_5 gr_133_5 dX12_party_47 rfl ?_
        refine w_aload_n (pc' := 51) (i := 0) (by rfl) (by rfl) dX12_party_50 rfl ?_
        refine v_getI (pc' := 54) (ji := 6) rfl fg_X12_273 kd_133 dX12_party_51 rfl ?_
        show Wp _ _ _ _ _ _ [gI (σ 133 6), gR 136]
        rw [hI.f6]
        refine w_lload_n (pc' := 55) (i := 2) (by rfl) (by rfl) dX12_party_54 rfl ?_
        refine w_last (pc' := 56) kd_136 (by omega) (by omega) dX12_party_55 rfl ?_
        refine w_aload_n (pc' := 57) (i := 0) (by rfl) (by rfl) dX12_party_56 rfl ?_
        refine w_dup (pc' := 58) dX12_party_57 rfl ?_
        refine v_getI (pc' := 61) (ji := 6) rfl fg_X12_273 kd_133 dX12_party_58 rfl ?_
        show Wp _ _ _ _ _ _ [gI (σ 133 6), gR 133]
        rw [hI.f6]
        refine w_iconst (pc' := 62) (by decide) dX12_party_61 rfl ?_
        refine v_iadd (pc' := 63) (by omega) dX12_party_62 rfl ?_
        refine v_putI (pc' := 66) (ji := 6) rfl fp_X12_273 kd_133 sf_X12_6 dX12_party_63 rfl ?_
        refine w_aload_n (pc' := 67) (i := 0) (by rfl) (by rfl) dX12_party_66 rfl ?_
        refine w_dup (pc' := 68) dX12_party_67 rfl ?_
        refine v_getI (pc' := 71) (ji := 7) rfl fg_X12_20 kd_133 dX12_party_68 rfl ?_
        show Wp _ _ _ _ _ _ [gI (σ 133 7), gR 133]
        refine w_iconst (pc' := 72) (by decide) dX12_party_71 rfl ?_
        refine v_iadd (pc' := 73) (by omega) dX12_party_72 rfl ?_
        refine v_putI (pc' := 76) (ji := 7) rfl fp_X12_20 kd_133 sf_X12_7 dX12_party_73 rfl ?_
        refine w_aload_n (pc' := 77) (i := 0) (by rfl) (by rfl) dX12_party_76 rfl ?_
        refine v_getI (pc' := 80) (ji := 6) rfl fg_X12_273 kd_133 dX12_party_77 rfl ?_
        show Wp _ _ _ _ _ _ [gI ((σ 3 2) + 1)]
        refine w_iconst (pc' := 81) (by decide) dX12_party_80 rfl ?_
        refine v_isub (pc' := 82) (by omega) dX12_party_81 rfl ?_
        refine v_ireturn rfl dX12_party_82 ?_
        first
          | (exfalso; omega)
          | exact ⟨(by first | rfl | exact congrArg gI (by omega) | exact congrArg gI (gb_t (by omega)) | exact congrArg gI (gb_f (by omega)) | (refine congrArg gI ?_; (repeat' split) <;> omega)), rfl⟩
      · skip
        refine w_iconst (pc' := 35) (by decide) dX12_party_34 rfl ?_
        refine v_ireturn rfl dX12_party_35 ?_
        first
          | (exfalso; omega)
          | exact ⟨(by first | rfl | exact congrArg gI (by omega) | exact congrArg gI (gb_t (by omega)) | exact congrArg gI (gb_f (by omega)) | (refine congrArg gI ?_; (repeat' split) <;> omega)), rfl⟩
theorem i_party {σ : gH} (hI : Inv σ) (s : Int)  (hP : σ 3 2 < 60 ∧ (0 ≤ s ∧ s ≤ 2) ∧ NMc (σ 0 1) (σ 1) ≠ -1) : Inv (gUp (gUp (gUp (gUp (gUp (gUp (gUp (gUp (gUp (gUp σ 0 1 0) 4 (σ 3 2) s) 5 (σ 3 2) (NMc (σ 0 1) (σ 1))) 3 2 (σ 3 2 + 1)) 133 0 0) 133 2 0) 135 (σ 3 2) s) 136 (σ 3 2) (NMm (σ 133 2) (σ 134))) 133 6 ((σ 3 2) + 1)) 133 7 ((σ 133 7) + 1)) := by
  have hp0 := hI.f.party.2.1
  have mP : ∀ x, isP σ x → isP (gUp (gUp (gUp (gUp (gUp (gUp (gUp (gUp (gUp (gUp σ 0 1 0) 4 (σ 3 2) s) 5 (σ 3 2) (NMc (σ 0 1) (σ 1))) 3 2 (σ 3 2 + 1)) 133 0 0) 133 2 0) 135 (σ 3 2) s) 136 (σ 3 2) (NMm (σ 133 2) (σ 134))) 133 6 ((σ 3 2) + 1)) 133 7 ((σ 133 7) + 1)) x := fun x h => ⟨h.1, by show x < σ 3 2 + 1; have := h.2; omega⟩
  have m4 : ∀ x, isP σ x → (gUp (gUp (gUp (gUp (gUp (gUp (gUp (gUp (gUp (gUp σ 0 1 0) 4 (σ 3 2) s) 5 (σ 3 2) (NMc (σ 0 1) (σ 1))) 3 2 (σ 3 2 + 1)) 133 0 0) 133 2 0) 135 (σ 3 2) s) 136 (σ 3 2) (NMm (σ 133 2) (σ 134))) 133 6 ((σ 3 2) + 1)) 133 7 ((σ 133 7) + 1)) 4 x = σ 4 x := fun x h => by
    show (if x = σ 3 2 then s else σ 4 x) = σ 4 x
    exact if_neg (by have := h.2; omega)
  have mE : ∀ x, isPe σ x → isPe (gUp (gUp (gUp (gUp (gUp (gUp (gUp (gUp (gUp (gUp σ 0 1 0) 4 (σ 3 2) s) 5 (σ 3 2) (NMc (σ 0 1) (σ 1))) 3 2 (σ 3 2 + 1)) 133 0 0) 133 2 0) 135 (σ 3 2) s) 136 (σ 3 2) (NMm (σ 133 2) (σ 134))) 133 6 ((σ 3 2) + 1)) 133 7 ((σ 133 7) + 1)) x := fun x h => ⟨mP x h.1, (m4 x h.1).trans h.2⟩
  have mH : ∀ x, isHo σ x → isHo (gUp (gUp (gUp (gUp (gUp (gUp (gUp (gUp (gUp (gUp σ 0 1 0) 4 (σ 3 2) s) 5 (σ 3 2) (NMc (σ 0 1) (σ 1))) 3 2 (σ 3 2 + 1)) 133 0 0) 133 2 0) 135 (σ 3 2) s) 136 (σ 3 2) (NMm (σ 133 2) (σ 134))) 133 6 ((σ 3 2) + 1)) 133 7 ((σ 133 7) + 1)) x := fun x h => ⟨mP x h.1, by rw [m4 x h.1]; exact h.2⟩
  refine ⟨⟨⟨hI.f.day, ⟨rfl, by show (0 : Int) ≤ 0; omega, by show (0 : Int) ≤ 540; omega, fun i a b => by have b2 : i < 0 := b; omega⟩, hI.f.outs, ?_, ?_, ?_, ?_, ?_, hI.f.worth, ?_, ?_, ?_, ?_⟩, hI.law, hI.ord⟩, hI.2.1, ⟨?_, ?_, ?_⟩⟩
  · have hS := hI.f.party
    refine ⟨?_, ?_, ?_, fun i h0 h1 => ?_⟩
    · exact rfl
    · show 0 ≤ σ 3 2 + 1
      have := hS.2.1
      omega
    · show σ 3 2 + 1 ≤ 60
      omega
    · have h2 : i < σ 3 2 + 1 := h1
      show (if i = σ 3 2 then s else σ 135 i) = (if i = σ 3 2 then s else σ 4 i) ∧ 0 ≤ (if i = σ 3 2 then s else σ 4 i) ∧ (if i = σ 3 2 then s else σ 4 i) ≤ 2 ∧ nmR ((if i = σ 3 2 then NMc (σ 0 1) (σ 1) else σ 5 i)) ((if i = σ 3 2 then NMm (σ 133 2) (σ 134) else σ 136 i))
      by_cases hi : i = σ 3 2
      · simp only [if_pos hi]
        exact ⟨trivial, hP.2.1.1, hP.2.1.2, (NM_both hI).2.1 hP.2.2⟩
      · simp only [if_neg hi]
        exact hS.2.2.2 i h0 (by omega)
  · have hS := hI.f.own
    refine ⟨hS.1, hS.2.1, hS.2.2.1, fun i h0 h1 => ?_⟩
    obtain ⟨a1, a2, a3, a4, a5, a6, b1, b2, b3⟩ := hS.2.2.2 i h0 h1
    exact ⟨a1, a2, a3, a4, a5, a6, mP _ b1, mH _ b2, b3⟩
  · have hS := hI.f.kin
    refine ⟨hS.1, hS.2.1, hS.2.2.1, fun i h0 h1 => ?_⟩
    obtain ⟨a1, a2, a3, a4, a5, b1, b2, b3⟩ := hS.2.2.2 i h0 h1
    exact ⟨a1, a2, a3, a4, a5, mE _ b1, mE _ b2, b3⟩
  · have hS := hI.f.post
    refine ⟨hS.1, hS.2.1, hS.2.2.1, fun i h0 h1 => ?_⟩
    obtain ⟨a1, a2, a3, a4, a5, b1, b2, b3⟩ := hS.2.2.2 i h0 h1
    exact ⟨a1, a2, a3, a4, a5, mE _ b1, mH _ b2, b3⟩
  · have hS := hI.f.gift
    refine ⟨hS.1, hS.2.1, hS.2.2.1, fun i h0 h1 => ?_⟩
    obtain ⟨a1, b1, b2, b3⟩ := hS.2.2.2 i h0 h1
    exact ⟨a1, mP _ b1, mE _ b2, b3⟩
  · have hS := hI.f.mem
    refine ⟨hS.1, hS.2.1, hS.2.2.1, fun i h0 h1 => ?_⟩
    obtain ⟨a1, b1⟩ := hS.2.2.2 i h0 h1
    exact ⟨a1, mE _ b1⟩
  · have hS := hI.f.mat
    refine ⟨hS.1, hS.2.1, hS.2.2.1, fun i h0 h1 => ?_⟩
    obtain ⟨a1, a2, b1, b2⟩ := hS.2.2.2 i h0 h1
    exact ⟨a1, a2, mP _ b1, b2⟩
  · have hS := hI.f.vote
    refine ⟨hS.1, hS.2.1, hS.2.2.1, fun i h0 h1 => ?_⟩
    obtain ⟨a1, a2, a3, a4, a5, a6, b1, b2⟩ := hS.2.2.2 i h0 h1
    exact ⟨a1, a2, a3, a4, a5, a6, mE _ b1, b2⟩
  · have hS := hI.f.ent
    refine ⟨hS.1, hS.2.1, hS.2.2.1, fun i h0 h1 => ?_⟩
    obtain ⟨a1, a2, a3, a4, a5, b1, b2⟩ := hS.2.2.2 i h0 h1
    exact ⟨a1, a2, a3, a4, a5, mP _ b1, b2⟩
  · show σ 133 7 + 1 = 1 + (σ 3 2 + 1) + σ 133 14
    have h1 := hI.mod.1
    have h2 := hI.f6
    omega
  · show σ 133 49 ≤ σ 133 7 + 1
    have := hI.mod.2.1
    omega
  · intro h
    have h2 : σ 133 49 = σ 133 7 + 1 := h
    have := hI.mod.2.1
    omega
theorem ci_party (s : Int)  : CI Inv mX11_party mX12_party [gI s] := CI_reg (fun σ => σ 3 2 < 60 ∧ (0 ≤ s ∧ s ≤ 2) ∧ NMc (σ 0 1) (σ 1) ≠ -1) (fun σ => σ 3 2) (fun σ => -1) (fun σ => gUp (gUp (gUp (gUp σ 0 1 0) 4 (σ 3 2) s) 5 (σ 3 2) (NMc (σ 0 1) (σ 1))) 3 2 (σ 3 2 + 1)) (fun σ => gUp σ 0 1 0) (fun σ => gUp (gUp (gUp (gUp (gUp (gUp (gUp (gUp (gUp (gUp σ 0 1 0) 4 (σ 3 2) s) 5 (σ 3 2) (NMc (σ 0 1) (σ 1))) 3 2 (σ 3 2 + 1)) 133 0 0) 133 2 0) 135 (σ 3 2) s) 136 (σ 3 2) (NMm (σ 133 2) (σ 134))) 133 6 ((σ 3 2) + 1)) 133 7 ((σ 133 7) + 1)) (fun σ => gUp (gUp (gUp σ 0 1 0) 133 0 0) 133 2 0) (fun σ hI => x_party hI s ) (fun σ hI hP => m_partyT hI s  hP) (fun σ hI hP => m_partyF hI s  hP) (fun σ hI hP => i_party hI s  hP) (fun σ hI _ => (show Inv (gUp (gUp (gUp σ 0 1 0) 133 0 0) 133 2 0) from ⟨⟨⟨hI.f.day, ⟨rfl, by show (0 : Int) ≤ 0; omega, by show (0 : Int) ≤ 540; omega, fun i a b => by have b2 : i < 0 := b; omega⟩, hI.f.outs, hI.f.party, hI.f.own, hI.f.kin, hI.f.post, hI.f.gift, hI.f.worth, hI.f.mem, hI.f.mat, hI.f.vote, hI.f.ent⟩, hI.law, hI.ord⟩, hI.2.1, hI.mod⟩))
