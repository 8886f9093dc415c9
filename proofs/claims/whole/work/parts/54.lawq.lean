/-! the law in force; its numbers (gen/mod_lawq.py) -/
def lwI (fr kn : Int → Int) (d t : Int) : Nat → Int
  | 0 => -1
  | n + 1 => if kn n ≤ t ∧ fr n ≤ d ∧ (lwI fr kn d t n = -1 ∨ fr (lwI fr kn d t n) ≤ fr n) then n else lwI fr kn d t n
def LI (σ : gH) (d t : Int) : Int := lwI (σ 173) (σ 174) d t (σ 57 2).toNat
theorem lwI_s {fr kn : Int → Int} {d t i : Int} (h : 0 ≤ i) : lwI fr kn d t (i + 1).toNat = if kn i ≤ t ∧ fr i ≤ d ∧ (lwI fr kn d t i.toNat = -1 ∨ fr (lwI fr kn d t i.toNat) ≤ fr i) then i else lwI fr kn d t i.toNat := by
  have e : (i + 1).toNat = i.toNat + 1 := by omega
  have e2 : ((i.toNat : Nat) : Int) = i := Int.toNat_of_nonneg h
  rw [e]
  show (if kn (i.toNat : Int) ≤ t ∧ fr (i.toNat : Int) ≤ d ∧ (lwI fr kn d t i.toNat = -1 ∨ fr (lwI fr kn d t i.toNat) ≤ fr (i.toNat : Int)) then (i.toNat : Int) else lwI fr kn d t i.toNat) = _
  rw [e2]
theorem lwI_in {fr kn : Int → Int} {d t : Int} : ∀ n : Nat, -1 ≤ lwI fr kn d t n ∧ lwI fr kn d t n < n
  | 0 => ⟨by show (-1 : Int) ≤ -1; omega, by show (-1 : Int) < 0; omega⟩
  | n + 1 => by
    have ih := lwI_in (fr := fr) (kn := kn) (d := d) (t := t) n
    show -1 ≤ (if kn n ≤ t ∧ fr n ≤ d ∧ (lwI fr kn d t n = -1 ∨ fr (lwI fr kn d t n) ≤ fr n) then (n : Int) else lwI fr kn d t n) ∧ (if kn n ≤ t ∧ fr n ≤ d ∧ (lwI fr kn d t n = -1 ∨ fr (lwI fr kn d t n) ≤ fr n) then (n : Int) else lwI fr kn d t n) < ((n + 1 : Nat) : Int)
    split <;> omega
theorem LI_in {σ : gH} (hI : Inv σ) (d t : Int) : -1 ≤ LI σ d t ∧ LI σ d t < σ 57 2 ∧ LI σ d t < 6 := by
  have h := lwI_in (fr := σ 173) (kn := σ 174) (d := d) (t := t) (σ 57 2).toNat
  have e : LI σ d t = lwI (σ 173) (σ 174) d t (σ 57 2).toNat := rfl
  have h0 := hI.law.2.1
  have h6 := hI.law.2.2.1
  omega
def lwC (l : Int) : Nat := if l = -1 then 59 else clw l
theorem LWR_of {σ : gH} (hI : Inv σ) {l : Int} (h0 : -1 ≤ l) (h1 : l < σ 57 2) : LWR σ (lwC l) l := by
  unfold lwC
  have h6 := hI.law.2.2.1
  by_cases e : l = -1
  · rw [if_pos e]; exact Or.inl ⟨e, rfl, hI.law.2.2.2.2.2⟩
  · rw [if_neg e]; exact Or.inr ⟨by omega, h1, by omega, rfl, law_at hI.law (by omega) h1⟩
theorem LI_law {σ : gH} (hI : Inv σ) (d t : Int) : LWR σ (lwC (LI σ d t)) (LI σ d t) := LWR_of hI (LI_in hI d t).1 (LI_in hI d t).2.1
/-- a number of the law at c, read at a store with the same facts -/
theorem k_lget {σ0 σ : gH} {c : Nat} {l : Int} {M : gM} {j : Int} {v : Int} (hL : LWR σ0 c l) (e : hm σ = hm σ0) (h : Mt M 0 [gR c] σ (rE (gI (σ c j)) σ)) (hv : σ0 c j = v) : Mt M 0 [gR c] σ (rE (gI v) σ) := by
  rw [← hv, ← hm_rd e (.inr (hL.is.2 j).1)]
  exact h
theorem k_kinL {σ0 σ : gH} {c : Nat} {l : Int} (hL : LWR σ0 c l) (e : hm σ = hm σ0) : Mt mX4_kinLimit 0 [gR c] σ (rE (gI (NU σ0 l 0)) σ) := k_lget hL e (l_kinLimit hL.is.1 σ) hL.num.1.1
theorem k_yearL {σ0 σ : gH} {c : Nat} {l : Int} (hL : LWR σ0 c l) (e : hm σ = hm σ0) : Mt mX4_year 0 [gR c] σ (rE (gI (NU σ0 l 1)) σ) := k_lget hL e (l_year hL.is.1 σ) hL.num.2.1.1
theorem k_oldL {σ0 σ : gH} {c : Nat} {l : Int} (hL : LWR σ0 c l) (e : hm σ = hm σ0) : Mt mX4_old 0 [gR c] σ (rE (gI (NU σ0 l 2)) σ) := k_lget hL e (l_old hL.is.1 σ) hL.num.2.2.1.1
theorem k_linkL {σ0 σ : gH} {c : Nat} {l : Int} (hL : LWR σ0 c l) (e : hm σ = hm σ0) : Mt mX4_link 0 [gR c] σ (rE (gI (NU σ0 l 3)) σ) := k_lget hL e (l_link hL.is.1 σ) hL.num.2.2.2.1.1
theorem k_seatsL {σ0 σ : gH} {c : Nat} {l : Int} (hL : LWR σ0 c l) (e : hm σ = hm σ0) : Mt mX4_seatsNeeded 0 [gR c] σ (rE (gI (NU σ0 l 4)) σ) := k_lget hL e (l_seatsNeeded hL.is.1 σ) hL.num.2.2.2.2.1.1
theorem k_tellsL {σ0 σ : gH} {c : Nat} {l : Int} (hL : LWR σ0 c l) (e : hm σ = hm σ0) : Mt mX4_totalTells 0 [gR c] σ (rE (gI (TE σ0 l)) σ) := k_lget hL e (l_totalTells hL.is.1 σ) hL.num.2.2.2.2.2.1.1
theorem k_withinL {σ0 σ : gH} {c : Nat} {l k : Int} (hL : LWR σ0 c l) (e : hm σ = hm σ0) (h0 : 0 ≤ k) (h1 : k < TE σ0 l) : Mt mX4_within 0 [gR c, gI k] σ (rE (gI (WI σ0 l k)) σ) := by
  have h8 := hL.num.2.2.2.2.2.1.2.2
  rw [← (hL.within h0 h1).1, ← hm_rd e (.inr (hL.is.2 k).2.1)]
  exact l_within hL.is.1 σ k ⟨h0, by omega⟩
/-- whether a law speaks of the mark m at all -/
def US (σ : gH) (c : Nat) (m : Int) : Int := anyI (fun i => σ (c + 4) i = m) (σ c 15)
theorem k_usesL {σ0 σ : gH} {c : Nat} {l : Int} (hL : LWR σ0 c l) (e : hm σ = hm σ0) (m : Int) : Mt mX4_uses 0 [gR c, gI m] σ (rE (gI (US σ0 c m)) σ) := by
  have e15 : σ c 15 = σ0 c 15 := hm_rd e (.inr (hL.is.2 15).1)
  have h := l_uses hL.is.1 σ m (by rw [e15]; exact hL.num.2.2.2.2.2.2.2)
  have e2 : anyI (fun i => σ (c + 4) i = m) (σ c 15) = US σ0 c m := by
    unfold US
    rw [e15]
    exact anyI_congr fun i a b => by rw [hm_rd e (.inr (hL.is.2 i).2.2.2.2.1)]
  rw [e2] at h
  exact h
theorem LWR.wfC {σ : gH} {c : Nat} {l r : Int} (h : LWR σ c l) (h0 : 0 ≤ r) (h1 : r < 10) : σ (c + 2) r = σ (c + 3) r ∨ (0 ≤ σ (c + 2) r ∧ σ (c + 2) r < σ (c + 3) r ∧ σ (c + 3) r ≤ 120 ∧ wfP (σ (c + 3) r - σ (c + 2) r) (fun k => σ (c + 4) (σ (c + 2) r + k)) ∧ ∀ i, σ (c + 2) r ≤ i → i < σ (c + 3) r → 0 ≤ σ (c + 4) i ∧ σ (c + 4) i ≤ 16) := by
  rcases h.rule h0 h1 with ⟨e, q⟩ | ⟨nl, q, b0, b1, b2, f0, f1, fe⟩
  · exact Or.inl e
  · rcases q with q | ⟨q1, q2, q3, q4, q5, q6, q7, q8, q9⟩
    · omega
    · refine Or.inr ⟨b0, b1, b2, ⟨by omega, q7, q8⟩, fun i i0 i1 => ?_⟩
      have u := (q9 (i - σ (c + 2) r) (by omega) (by omega)).1
      rw [show σ (c + 2) r + (i - σ (c + 2) r) = i by omega] at u
      have v := u.imp atm_in id
      omega
/-- the class's condition, read at a store with the same facts: what the reference finds, if the values are alike -/
theorem k_holdsL {σ0 σ : gH} {c : Nat} {l : Int} (hL : LWR σ0 c l) (e : hm σ = hm σ0) (r : Int) (h0 : 0 ≤ r) (h1 : r < 10) (F : Int → Int) (hF : ∀ m, isAtm r m → (∃ i, 0 ≤ i ∧ i < σ0 c 15 ∧ σ0 (c + 4) i = m) → σ 111 m = F (rnM m) ∧ (¬ isMeas m → σ 111 m = 0 ∨ σ 111 m = 1)) : Mt mX4_holds 1 [gR c, gI r, gR 111] σ (rE (gI (gb (HM σ0 l r F ≠ 0))) σ) := by
  have f := hL.is.2
  have r2 : ∀ i, σ (c + 2) i = σ0 (c + 2) i := fun i => hm_rd e (.inr (f i).2.2.1)
  have r3 : ∀ i, σ (c + 3) i = σ0 (c + 3) i := fun i => hm_rd e (.inr (f i).2.2.2.1)
  have r4 : σ (c + 4) = σ0 (c + 4) := funext fun i => hm_rd e (.inr (f i).2.2.2.2.1)
  have r5 : σ (c + 5) = σ0 (c + 5) := funext fun i => hm_rd e (.inr (f i).2.2.2.2.2.1)
  have r6 : σ (c + 6) = σ0 (c + 6) := funext fun i => hm_rd e (.inr (f i).2.2.2.2.2.2)
  have w := hL.wfC h0 h1
  have k := lq_holds hL.is.1 σ r ⟨h0, h1⟩ (by rw [r2, r3, r4]; exact w)
  have eH : HOc σ c r = HM σ0 l r F := by
    have e1 : HOc σ c r = HOc (gUr σ0 111 (σ 111)) c r := by
      have hc : c + 6 ≤ 109 := by
        rcases hL with x | x
        · omega
        · have := x.2.2.1
          have := x.2.2.2.1
          have : clw l ≤ 103 := by unfold clw; omega
          omega
      have g : ∀ k, k ≠ 111 → gUr σ0 111 (σ 111) k = σ0 k := fun k h => if_neg h
      have g1 : gUr σ0 111 (σ 111) 111 = σ 111 := if_pos rfl
      unfold HOc
      rw [r2, r3, r4, r5, r6, g (c + 2) (by omega), g (c + 3) (by omega), g (c + 4) (by omega), g (c + 5) (by omega), g (c + 6) (by omega), g1]
    rw [e1]
    have hc : c + 6 ≤ 109 := by
      rcases hL with x | x
      · omega
      · have := x.2.2.1
        have := x.2.2.2.1
        have : clw l ≤ 103 := by unfold clw; omega
        omega
    have hm1 : hm (gUr σ0 111 (σ 111)) = hm σ0 := hm_ur (hm_nfC 111 (by decide))
    have hL' : LWR (gUr σ0 111 (σ 111)) c l := by
      rcases hL with x | x
      · refine Or.inl ⟨x.1, x.2.1, ?_⟩
        have := x.2.2
        exact this
      · refine Or.inr ⟨x.1, x.2.1, x.2.2.1, x.2.2.2.1, ?_⟩
        have g : ∀ k, k ≠ 111 → gUr σ0 111 (σ 111) k = σ0 k := fun k h => if_neg h
        have y := x.2.2.2.2
        unfold lawR
        rw [g c (by omega), g (c + 1) (by omega), g (c + 2) (by omega), g (c + 3) (by omega), g (c + 4) (by omega), g (c + 5) (by omega), g (c + 6) (by omega)]
        exact y
    have g : ∀ k, k ≠ 111 → gUr σ0 111 (σ 111) k = σ0 k := fun k h => if_neg h
    rw [HO_HM hL' h0 h1 (F := F) (fun m hm hx => ?_)]
    · rfl
    · rw [g c (by omega), g (c + 4) (by omega)] at hx
      exact hF m hm hx
  rw [eH] at k
  exact k
theorem k_since {σ0 σ : gH} (hI : Inv σ0) (e : hm σ = hm σ0) {i : Int} (h0 : 0 ≤ i) (h1 : i < σ0 57 2) : Mt mX4_since 0 [gR (clw i)] σ (rE (gI (σ0 173 i)) σ) := by
  have a := law_at hI.law h0 h1
  have h6 := hI.law.2.2.1
  have r : σ0 173 i = σ0 (clw i) 1 := by have x := a.1; rw [Int.toNat_of_nonneg h0] at x; exact x
  rw [r, ← hm_rd e (.inr ((lw_at h0 (by omega)).2 1).1)]
  exact l_since (lw_at h0 (by omega)).1 σ
theorem k_isIn {σ0 σ : gH} (hI : Inv σ0) (e : hm σ = hm σ0) {i : Int} (d t : Int) (h0 : 0 ≤ i) (h1 : i < σ0 57 2) : Mt mX4_isInForce 0 [gR (clw i), gI d, gI t] σ (rE (gI (gb (σ0 174 i ≤ t ∧ σ0 173 i ≤ d))) σ) := by
  have a := law_at hI.law h0 h1
  have h6 := hI.law.2.2.1
  have r : σ0 173 i = σ0 (clw i) 1 := by have x := a.1; rw [Int.toNat_of_nonneg h0] at x; exact x
  have r2 : σ0 174 i = σ0 (clw i) 0 := by have x := a.2.1; rw [Int.toNat_of_nonneg h0] at x; exact x
  rw [r, r2, ← hm_rd e (.inr ((lw_at h0 (by omega)).2 1).1), ← hm_rd e (.inr ((lw_at h0 (by omega)).2 0).1)]
  exact l_isInForce (lw_at h0 (by omega)).1 σ d t
theorem law_from {σ : gH} (hI : Inv σ) {i : Int} (h0 : 0 ≤ i) (h1 : i < σ 57 2) : 0 ≤ σ 173 i := by
  have a := law_at hI.law h0 h1
  have x := a.1
  rw [Int.toNat_of_nonneg h0] at x
  rw [x]
  exact a.2.2.1.1
theorem q_numberOf {σ0 σ : gH} (hI : Inv σ0) (hq : lm σ = lm σ0) (l k : Int) (hl : -1 ≤ l ∧ l < 6) (hk : 0 ≤ k ∧ k < 5) : Mt mX12_numberOf 0 [gR 133, gI l, gI k] σ (rE (gI (NU σ0 l k)) σ) := by
  have e1 : σ 183 k = σ0 183 k := lm_rd hq (.inr rfl)
  have e2 : σ 177 (5 * l + k) = σ0 177 (5 * l + k) := lm_rd hq (.inr rfl)
  have en : NU σ0 l k = if l = -1 then σ 183 k else σ 177 (5 * l + k) := by unfold NU; rw [e1, e2]
  rw [en]
  refine Mt.walk (ls := [gR 133, gI l, gI k]) pn_X12 rfl (fun _ _ h => by cases h.1) (Nat.le_of_ble_eq_true rfl) rfl ?_
  refine w_iload_n (pc' := 1) (i := 1) (by rfl) (by rfl) dX12_numberOf_0 rfl ?_
  refine w_iconst (pc' := 2) (by decide) dX12_numberOf_1 rfl ?_
  refine w_icmp_ne (pc' := 5) (t := 14) dX12_numberOf_2 rfl rfl (fun c_2 => ?_) (fun c_2 => ?_)
  · skip
    refine w_aload_n (pc' := 15) (i := 0) (by rfl) (by rfl) dX12_numberOf_14 rfl ?_
    refine w_getS (pc' := 18) (q := 177) fg_X12_151 kd_133 sf_X12_68 gr_133_68 dX12_numberOf_15 rfl ?_
    refine w_iconst (pc' := 19) (by decide) dX12_numberOf_18 rfl ?_
    refine w_iload_n (pc' := 20) (i := 1) (by rfl) (by rfl) dX12_numberOf_19 rfl ?_
    refine v_imul (pc' := 21) (by omega) dX12_numberOf_20 rfl ?_
    refine w_iload_n (pc' := 22) (i := 2) (by rfl) (by rfl) dX12_numberOf_21 rfl ?_
    refine v_iadd (pc' := 23) (by omega) dX12_numberOf_22 rfl ?_
    refine w_iald (pc' := 24) kd_177 (by omega) (by omega) dX12_numberOf_23 rfl ?_
    refine v_ireturn rfl dX12_numberOf_24 ?_
    first
      | (exfalso; omega)
      | exact ⟨by rw [if_pos (by omega)], rfl⟩
      | exact ⟨by rw [if_neg (by omega)], rfl⟩
  · skip
    refine w_aload_n (pc' := 6) (i := 0) (by rfl) (by rfl) dX12_numberOf_5 rfl ?_
    refine w_getS (pc' := 9) (q := 183) fg_X12_169 kd_133 sf_X12_74 gr_133_74 dX12_numberOf_6 rfl ?_
    refine w_iload_n (pc' := 10) (i := 2) (by rfl) (by rfl) dX12_numberOf_9 rfl ?_
    refine w_iald (pc' := 11) kd_183 (by omega) (by omega) dX12_numberOf_10 rfl ?_
    refine w_goto (pc' := 24) dX12_numberOf_11 rfl ?_
    refine v_ireturn rfl dX12_numberOf_24 ?_
    first
      | (exfalso; omega)
      | exact ⟨by rw [if_pos (by omega)], rfl⟩
      | exact ⟨by rw [if_neg (by omega)], rfl⟩
theorem q_lawFor {σ0 σ : gH} (hI : Inv σ0) (hq : QM σ0 σ) (d t : Int) : Mt mX12_lawFor 0 [gR 133, gI d, gI t] σ (rE (gI (LI σ0 d t)) σ) := by
  refine Mt.walk (ls := [gR 133, gI d, gI t, gX 1, gX 1]) pn_X12 rfl (fun _ _ h => by cases h.1) (Nat.le_of_ble_eq_true rfl) rfl ?_
  have hn := hI.law.2.1
  have hn6 := hI.law.2.2.1
  refine w_iconst (pc' := 1) (by decide) dX12_lawFor_0 rfl ?_
  refine w_istore_n (pc' := 2) (i := 3) (ls' := [gR 133, gI d, gI t, gI (-1), gX 1]) (by rfl) (by decide) (by rfl) dX12_lawFor_1 rfl ?_
  refine w_iconst (pc' := 3) (by decide) dX12_lawFor_2 rfl ?_
  refine w_istore (pc' := 5) (ls' := [gR 133, gI d, gI t, gI (-1), gI 0]) (by decide) (by rfl) dX12_lawFor_3 rfl ?_
  have hl_5 : ∀ (mm : Nat) (i b : Int), (σ0 57 2 - i).toNat = mm → (0 ≤ i) → (i ≤ σ0 57 2) → (b = lwI (σ0 173) (σ0 174) d t i.toNat) → Wp mX12_lawFor 0 (rE (gI (LI σ0 d t)) σ) σ 5 [gR 133, gI d, gI t, gI b, gI i] [] := by
    intro m_5
    induction m_5 using Nat.strongRecOn with
    | _ m_5 ih_5 =>
      intro i b hmeas_5 h0 h1 hb
      have hbi := lwI_in (fr := σ0 173) (kn := σ0 174) (d := d) (t := t) i.toNat
      rw [← hb] at hbi
      refine w_iload (pc' := 7) (by rfl) dX12_lawFor_5 rfl ?_
      refine w_aload_n (pc' := 8) (i := 0) (by rfl) (by rfl) dX12_lawFor_7 rfl ?_
      refine v_getI (pc' := 11) (ji := 77) rfl fg_X12_494 kd_133 dX12_lawFor_8 rfl ?_
      rw [(hq).rd (k := 133) (i := 77) (.inr rfl)]
      rw [hI.f77]
      refine w_icmp_ge (pc' := 14) (t := 66) dX12_lawFor_11 rfl rfl (fun c_11 => ?_) (fun c_11 => ?_)
      · skip
        refine w_iload_n (pc' := 67) (i := 3) (by rfl) (by rfl) dX12_lawFor_66 rfl ?_
        refine v_ireturn rfl dX12_lawFor_67 ?_
        have e : i = σ0 57 2 := by omega
        exact ⟨congrArg gI (by rw [hb, e]; rfl), rfl⟩
      · skip
        refine w_aload_n (pc' := 15) (i := 0) (by rfl) (by rfl) dX12_lawFor_14 rfl ?_
        refine w_getS (pc' := 18) (q := 174) fg_X12_142 kd_133 sf_X12_65 gr_133_65 dX12_lawFor_15 rfl ?_
        refine w_iload (pc' := 20) (by rfl) dX12_lawFor_18 rfl ?_
        refine w_iald (pc' := 21) kd_174 (by omega) (by omega) dX12_lawFor_20 rfl ?_
        rw [(hq).rd (k := 174) (i := i) (.inr rfl)]
        refine w_iload_n (pc' := 22) (i := 2) (by rfl) (by rfl) dX12_lawFor_21 rfl ?_
        refine w_icmp_gt (pc' := 25) (t := 60) dX12_lawFor_22 rfl rfl (fun c_22 => ?_) (fun c_22 => ?_)
        · skip
          refine v_iinc (pc' := 63) (x := i) (ls' := [gR 133, gI d, gI t, gI b, gI (i + 1)]) (by omega) (by decide) (by rfl) (by rfl) dX12_lawFor_60 rfl ?_
          refine w_goto (pc' := 5) dX12_lawFor_63 rfl ?_
          exact ih_5 _ (by omega) (i + 1) b rfl (by omega) (by omega) (by rw [lwI_s h0, ← hb]; first | (rw [if_pos (by omega)]) | (rw [if_neg (by omega)]))
        · skip
          refine w_aload_n (pc' := 26) (i := 0) (by rfl) (by rfl) dX12_lawFor_25 rfl ?_
          refine w_getS (pc' := 29) (q := 173) fg_X12_139 kd_133 sf_X12_64 gr_133_64 dX12_lawFor_26 rfl ?_
          refine w_iload (pc' := 31) (by rfl) dX12_lawFor_29 rfl ?_
          refine w_iald (pc' := 32) kd_173 (by omega) (by omega) dX12_lawFor_31 rfl ?_
          rw [(hq).rd (k := 173) (i := i) (.inr rfl)]
          refine w_iload_n (pc' := 33) (i := 1) (by rfl) (by rfl) dX12_lawFor_32 rfl ?_
          refine w_icmp_gt (pc' := 36) (t := 60) dX12_lawFor_33 rfl rfl (fun c_33 => ?_) (fun c_33 => ?_)
          · skip
            refine v_iinc (pc' := 63) (x := i) (ls' := [gR 133, gI d, gI t, gI b, gI (i + 1)]) (by omega) (by decide) (by rfl) (by rfl) dX12_lawFor_60 rfl ?_
            refine w_goto (pc' := 5) dX12_lawFor_63 rfl ?_
            exact ih_5 _ (by omega) (i + 1) b rfl (by omega) (by omega) (by rw [lwI_s h0, ← hb]; first | (rw [if_pos (by omega)]) | (rw [if_neg (by omega)]))
          · skip
            refine w_iload_n (pc' := 37) (i := 3) (by rfl) (by rfl) dX12_lawFor_36 rfl ?_
            refine w_iconst (pc' := 38) (by decide) dX12_lawFor_37 rfl ?_
            refine w_icmp_eq (pc' := 41) (t := 57) dX12_lawFor_38 rfl rfl (fun c_38 => ?_) (fun c_38 => ?_)
            · skip
              refine w_iload (pc' := 59) (by rfl) dX12_lawFor_57 rfl ?_
              refine w_istore_n (pc' := 60) (i := 3) (ls' := [gR 133, gI d, gI t, gI i, gI i]) (by rfl) (by decide) (by rfl) dX12_lawFor_59 rfl ?_
              refine v_iinc (pc' := 63) (x := i) (ls' := [gR 133, gI d, gI t, gI i, gI (i + 1)]) (by omega) (by decide) (by rfl) (by rfl) dX12_lawFor_60 rfl ?_
              refine w_goto (pc' := 5) dX12_lawFor_63 rfl ?_
              exact ih_5 _ (by omega) (i + 1) i rfl (by omega) (by omega) (by rw [lwI_s h0, ← hb]; first | (rw [if_pos (by omega)]) | (rw [if_neg (by omega)]))
            · skip
              refine w_aload_n (pc' := 42) (i := 0) (by rfl) (by rfl) dX12_lawFor_41 rfl ?_
              refine w_getS (pc' := 45) (q := 173) fg_X12_139 kd_133 sf_X12_64 gr_133_64 dX12_lawFor_42 rfl ?_
              refine w_iload (pc' := 47) (by rfl) dX12_lawFor_45 rfl ?_
              refine w_iald (pc' := 48) kd_173 (by omega) (by omega) dX12_lawFor_47 rfl ?_
              rw [(hq).rd (k := 173) (i := i) (.inr rfl)]
              refine w_aload_n (pc' := 49) (i := 0) (by rfl) (by rfl) dX12_lawFor_48 rfl ?_
              refine w_getS (pc' := 52) (q := 173) fg_X12_139 kd_133 sf_X12_64 gr_133_64 dX12_lawFor_49 rfl ?_
              refine w_iload_n (pc' := 53) (i := 3) (by rfl) (by rfl) dX12_lawFor_52 rfl ?_
              refine w_iald (pc' := 54) kd_173 (by omega) (by omega) dX12_lawFor_53 rfl ?_
              rw [(hq).rd (k := 173) (i := b) (.inr rfl)]
              refine w_icmp_lt (pc' := 57) (t := 60) dX12_lawFor_54 rfl rfl (fun c_54 => ?_) (fun c_54 => ?_)
              · skip
                refine v_iinc (pc' := 63) (x := i) (ls' := [gR 133, gI d, gI t, gI b, gI (i + 1)]) (by omega) (by decide) (by rfl) (by rfl) dX12_lawFor_60 rfl ?_
                refine w_goto (pc' := 5) dX12_lawFor_63 rfl ?_
                exact ih_5 _ (by omega) (i + 1) b rfl (by omega) (by omega) (by rw [lwI_s h0, ← hb]; first | (rw [if_pos (by omega)]) | (rw [if_neg (by omega)]))
              · skip
                refine w_iload (pc' := 59) (by rfl) dX12_lawFor_57 rfl ?_
                refine w_istore_n (pc' := 60) (i := 3) (ls' := [gR 133, gI d, gI t, gI i, gI i]) (by rfl) (by decide) (by rfl) dX12_lawFor_59 rfl ?_
                refine v_iinc (pc' := 63) (x := i) (ls' := [gR 133, gI d, gI t, gI i, gI (i + 1)]) (by omega) (by decide) (by rfl) (by rfl) dX12_lawFor_60 rfl ?_
                refine w_goto (pc' := 5) dX12_lawFor_63 rfl ?_
                exact ih_5 _ (by omega) (i + 1) i rfl (by omega) (by omega) (by rw [lwI_s h0, ← hb]; first | (rw [if_pos (by omega)]) | (rw [if_neg (by omega)]))
  exact hl_5 _ 0 (-1) rfl (by omega) (by omega) (by rfl)
theorem k_inForce {σ0 σ : gH} (hI : Inv σ0) (hq : QC σ0 σ) (d t : Int) : Mt mX5_inForce 1 [gR 57, gI d, gI t] σ (fun v σ' => ∃ c, v = gR c ∧ σ' = σ ∧ LWR σ0 c (LI σ0 d t) ∧ c = lwC (LI σ0 d t)) := by
  refine Mt.walk (ls := [gR 57, gI d, gI t, gX 1, gX 1, gX 1, gX 1]) pn_X5 rfl (fun _ _ h => by obtain ⟨_, h, _⟩ := h; cases h) (Nat.le_of_ble_eq_true rfl) rfl ?_
  have hn := hI.law.2.1
  have hn6 := hI.law.2.2.1
  refine Wp.gr (fun hg => ?_)
  have h58 : ∀ i, 0 ≤ i → i < 6 → σ 58 i = ((clw i : Nat) : Int) := fun i a b => by
    rcases (show i = 0 ∨ i = 1 ∨ i = 2 ∨ i = 3 ∨ i = 4 ∨ i = 5 by omega) with rfl | rfl | rfl | rfl | rfl | rfl
    · exact hg.at (j := 0) kd_58 (by decide) rfl rfl
    · exact hg.at (j := 1) kd_58 (by decide) rfl rfl
    · exact hg.at (j := 2) kd_58 (by decide) rfl rfl
    · exact hg.at (j := 3) kd_58 (by decide) rfl rfl
    · exact hg.at (j := 4) kd_58 (by decide) rfl rfl
    · exact hg.at (j := 5) kd_58 (by decide) rfl rfl
  refine w_aload_n (pc' := 1) (i := 0) (by rfl) (by rfl) dX5_inForce_0 rfl ?_
  refine w_getS (pc' := 4) (q := 59) fg_X5_18 kd_57 sf_X5_1 gr_57_1 dX5_inForce_1 rfl ?_
  refine w_astore_n (pc' := 5) (i := 3) (ls' := [gR 57, gI d, gI t, gR 59, gX 1, gX 1, gX 1]) (by rfl) (by decide) (by rfl) dX5_inForce_4 rfl ?_
  refine w_iconst (pc' := 6) (by decide) dX5_inForce_5 rfl ?_
  refine w_istore (pc' := 8) (ls' := [gR 57, gI d, gI t, gR 59, gI (-1), gX 1, gX 1]) (by decide) (by rfl) dX5_inForce_6 rfl ?_
  refine w_iconst (pc' := 9) (by decide) dX5_inForce_8 rfl ?_
  refine w_istore (pc' := 11) (ls' := [gR 57, gI d, gI t, gR 59, gI (-1), gI 0, gX 1]) (by decide) (by rfl) dX5_inForce_9 rfl ?_
  have hl_11 : ∀ (mm : Nat) (i s : Int) (lc : Nat), (σ0 57 2 - i).toNat = mm → (0 ≤ i) → (i ≤ σ0 57 2) → (lc = lwC (lwI (σ0 173) (σ0 174) d t i.toNat)) → (s = if lwI (σ0 173) (σ0 174) d t i.toNat = -1 then -1 else σ0 173 (lwI (σ0 173) (σ0 174) d t i.toNat)) → Wp mX5_inForce 1 (fun v σ' => ∃ c, v = gR c ∧ σ' = σ ∧ LWR σ0 c (LI σ0 d t) ∧ c = lwC (LI σ0 d t)) σ 11 [gR 57, gI d, gI t, gR lc, gI s, gI i, gX 1] [] := by
    intro m_11
    induction m_11 using Nat.strongRecOn with
    | _ m_11 ih_11 =>
      intro i s lc hmeas_11 h0 h1 hc hs
      have hbi := lwI_in (fr := σ0 173) (kn := σ0 174) (d := d) (t := t) i.toNat
      have hfr : i < σ0 57 2 → 0 ≤ σ0 173 i := fun h => law_from hI h0 h
      have h58i : i < σ0 57 2 → σ 58 i = ((clw i : Nat) : Int) := fun h => h58 i h0 (by omega)
      refine w_iload (pc' := 13) (by rfl) dX5_inForce_11 rfl ?_
      refine w_aload_n (pc' := 14) (i := 0) (by rfl) (by rfl) dX5_inForce_13 rfl ?_
      refine v_getI (pc' := 17) (ji := 2) rfl fg_X5_36 kd_57 dX5_inForce_14 rfl ?_
      rw [(hq).rd (k := 57) (i := 2) (.inr rfl)]
      refine w_icmp_ge (pc' := 20) (t := 77) dX5_inForce_17 rfl rfl (fun c_17 => ?_) (fun c_17 => ?_)
      · skip
        refine w_aload_n (pc' := 78) (i := 3) (by rfl) (by rfl) dX5_inForce_77 rfl ?_
        refine w_areturn rfl dX5_inForce_78 ?_
        have e : i = σ0 57 2 := by omega
        have eL : LI σ0 d t = lwI (σ0 173) (σ0 174) d t i.toNat := by rw [e]; rfl
        exact ⟨lc, rfl, rfl, by rw [hc, ← eL]; exact LI_law hI d t, by rw [hc, ← eL]⟩
      · skip
        refine w_iload (pc' := 22) (by rfl) dX5_inForce_20 rfl ?_
        refine w_bipush (pc' := 24) (by decide) (by decide) dX5_inForce_22 rfl ?_
        refine w_icmp_ge (pc' := 27) (t := 77) dX5_inForce_24 rfl rfl (fun c_24 => ?_) (fun c_24 => ?_)
        · skip
          refine w_aload_n (pc' := 78) (i := 3) (by rfl) (by rfl) dX5_inForce_77 rfl ?_
          refine w_areturn rfl dX5_inForce_78 ?_
          have e : i = σ0 57 2 := by omega
          have eL : LI σ0 d t = lwI (σ0 173) (σ0 174) d t i.toNat := by rw [e]; rfl
          exact ⟨lc, rfl, rfl, by rw [hc, ← eL]; exact LI_law hI d t, by rw [hc, ← eL]⟩
        · skip
          refine w_aload_n (pc' := 28) (i := 0) (by rfl) (by rfl) dX5_inForce_27 rfl ?_
          refine w_getS (pc' := 31) (q := 58) fg_X5_13 kd_57 sf_X5_0 gr_57_0 dX5_inForce_28 rfl ?_
          refine w_iload (pc' := 33) (by rfl) dX5_inForce_31 rfl ?_
          refine w_aald (pc' := 34) (q := (clw i)) kd_58 (by omega) (by omega) (h58i (by omega)) dX5_inForce_33 rfl ?_
          refine w_astore (pc' := 36) (ls' := [gR 57, gI d, gI t, gR lc, gI s, gI i, gR (clw i)]) (by decide) (by rfl) dX5_inForce_34 rfl ?_
          refine w_aload (pc' := 38) (by rfl) dX5_inForce_36 rfl ?_
          refine w_ifnull (pc' := 41) dX5_inForce_38 rfl ?_
          refine w_aload (pc' := 43) (by rfl) dX5_inForce_41 rfl ?_
          refine w_iload_n (pc' := 44) (i := 1) (by rfl) (by rfl) dX5_inForce_43 rfl ?_
          refine w_iload_n (pc' := 45) (i := 2) (by rfl) (by rfl) dX5_inForce_44 rfl ?_
          refine v_callVE (pc' := 48) (st' := [gI (gb (σ0 174 i ≤ t ∧ σ0 173 i ≤ d))]) (d' := 0) (av := [gI d, gI t]) mi_mX4_isInForce lk_X5_43 rfl ci_X4 (lw_at h0 (by omega)).1.1 rfl (Nat.le_of_ble_eq_true rfl) (Nat.le_of_ble_eq_true rfl) dX5_inForce_45 rfl rfl (k_isIn hI hq.1 d t h0 (by omega)) ?_
          refine v_if_eqB (pc' := 51) (t := 71) dX5_inForce_48 rfl rfl (fun c_48 => ?_) (fun c_48 => ?_)
          · skip
            refine v_iinc (pc' := 74) (x := i) (ls' := [gR 57, gI d, gI t, gR lc, gI s, gI (i + 1), gR (clw i)]) (by omega) (by decide) (by rfl) (by rfl) dX5_inForce_71 rfl ?_
            refine w_goto (pc' := 11) dX5_inForce_74 rfl ?_
            refine Wp.lose (ls' := [gR 57, gI d, gI t, gR lc, gI s, gI (i + 1), gX 1]) ⟨.inr rfl, ⟨.inr rfl, ⟨.inr rfl, ⟨.inr rfl, ⟨.inr rfl, ⟨.inr rfl, ⟨.inl rfl, trivial⟩⟩⟩⟩⟩⟩⟩ ?_
            exact ih_11 _ (by omega) (i + 1) s lc rfl (by omega) (by omega) (by rw [lwI_s h0]; split at hs <;> first | (exfalso; omega) | (rw [if_pos (by omega)]; unfold lwC; rw [if_neg (by omega)]) | (rw [if_neg (by omega)]; exact hc)) (by rw [lwI_s h0]; split at hs <;> first | (exfalso; omega) | (rw [if_pos (show _ ∧ _ ∧ _ by omega), if_neg (by omega)]) | (rw [if_neg (show ¬ (_ ∧ _ ∧ _) by omega)]; first | (rw [if_pos (by assumption)]; exact hs) | (rw [if_neg (by assumption)]; exact hs)))
          · skip
            refine w_aload (pc' := 53) (by rfl) dX5_inForce_51 rfl ?_
            refine v_callVE (pc' := 56) (st' := [gI (σ0 173 i)]) (d' := 0) (av := []) mi_mX4_since lk_X5_47 rfl ci_X4 (lw_at h0 (by omega)).1.1 rfl (Nat.le_of_ble_eq_true rfl) (Nat.le_of_ble_eq_true rfl) dX5_inForce_53 rfl rfl (k_since hI hq.1 h0 (by omega)) ?_
            refine w_iload (pc' := 58) (by rfl) dX5_inForce_56 rfl ?_
            refine w_icmp_lt (pc' := 61) (t := 71) dX5_inForce_58 rfl rfl (fun c_58 => ?_) (fun c_58 => ?_)
            · skip
              refine v_iinc (pc' := 74) (x := i) (ls' := [gR 57, gI d, gI t, gR lc, gI s, gI (i + 1), gR (clw i)]) (by omega) (by decide) (by rfl) (by rfl) dX5_inForce_71 rfl ?_
              refine w_goto (pc' := 11) dX5_inForce_74 rfl ?_
              refine Wp.lose (ls' := [gR 57, gI d, gI t, gR lc, gI s, gI (i + 1), gX 1]) ⟨.inr rfl, ⟨.inr rfl, ⟨.inr rfl, ⟨.inr rfl, ⟨.inr rfl, ⟨.inr rfl, ⟨.inl rfl, trivial⟩⟩⟩⟩⟩⟩⟩ ?_
              exact ih_11 _ (by omega) (i + 1) s lc rfl (by omega) (by omega) (by rw [lwI_s h0]; split at hs <;> first | (exfalso; omega) | (rw [if_pos (by omega)]; unfold lwC; rw [if_neg (by omega)]) | (rw [if_neg (by omega)]; exact hc)) (by rw [lwI_s h0]; split at hs <;> first | (exfalso; omega) | (rw [if_pos (show _ ∧ _ ∧ _ by omega), if_neg (by omega)]) | (rw [if_neg (show ¬ (_ ∧ _ ∧ _) by omega)]; first | (rw [if_pos (by assumption)]; exact hs) | (rw [if_neg (by assumption)]; exact hs)))
            · skip
              refine w_aload (pc' := 63) (by rfl) dX5_inForce_61 rfl ?_
              refine w_astore_n (pc' := 64) (i := 3) (ls' := [gR 57, gI d, gI t, gR (clw i), gI s, gI i, gR (clw i)]) (by rfl) (by decide) (by rfl) dX5_inForce_63 rfl ?_
              refine w_aload (pc' := 66) (by rfl) dX5_inForce_64 rfl ?_
              refine v_callVE (pc' := 69) (st' := [gI (σ0 173 i)]) (d' := 0) (av := []) mi_mX4_since lk_X5_47 rfl ci_X4 (lw_at h0 (by omega)).1.1 rfl (Nat.le_of_ble_eq_true rfl) (Nat.le_of_ble_eq_true rfl) dX5_inForce_66 rfl rfl (k_since hI hq.1 h0 (by omega)) ?_
              refine w_istore (pc' := 71) (ls' := [gR 57, gI d, gI t, gR (clw i), gI (σ0 173 i), gI i, gR (clw i)]) (by decide) (by rfl) dX5_inForce_69 rfl ?_
              refine v_iinc (pc' := 74) (x := i) (ls' := [gR 57, gI d, gI t, gR (clw i), gI (σ0 173 i), gI (i + 1), gR (clw i)]) (by omega) (by decide) (by rfl) (by rfl) dX5_inForce_71 rfl ?_
              refine w_goto (pc' := 11) dX5_inForce_74 rfl ?_
              refine Wp.lose (ls' := [gR 57, gI d, gI t, gR (clw i), gI (σ0 173 i), gI (i + 1), gX 1]) ⟨.inr rfl, ⟨.inr rfl, ⟨.inr rfl, ⟨.inr rfl, ⟨.inr rfl, ⟨.inr rfl, ⟨.inl rfl, trivial⟩⟩⟩⟩⟩⟩⟩ ?_
              exact ih_11 _ (by omega) (i + 1) (σ0 173 i) (clw i) rfl (by omega) (by omega) (by rw [lwI_s h0]; split at hs <;> first | (exfalso; omega) | (rw [if_pos (by omega)]; unfold lwC; rw [if_neg (by omega)]) | (rw [if_neg (by omega)]; exact hc)) (by rw [lwI_s h0]; split at hs <;> first | (exfalso; omega) | (rw [if_pos (show _ ∧ _ ∧ _ by omega), if_neg (by omega)]) | (rw [if_neg (show ¬ (_ ∧ _ ∧ _) by omega)]; first | (rw [if_pos (by assumption)]; exact hs) | (rw [if_neg (by assumption)]; exact hs)))
  exact hl_11 _ 0 (-1) 59 rfl (by omega) (by omega) (by rfl) (by rfl)
