/-! laws: their numbers, their conditions; class and reference (gen/mod_hold.py) -/
theorem htM_cg {mk mk' : Int → Int} : ∀ {n : Nat}, (∀ k : Int, 0 ≤ k → k < n → (mk k = 14 ↔ mk' k = 14) ∧ (mk k = 15 ↔ mk' k = 15) ∧ (mk k = 16 ↔ mk' k = 16)) → htM mk n = htM mk' n
  | 0, _ => rfl
  | n + 1, h => by
    have h1 := h n (by omega) (by omega)
    show (if htM mk n < 0 then (-1 : Int) else if mk n = 14 then (if 1 ≤ htM mk n then htM mk n else -1) else if mk n = 15 ∨ mk n = 16 then (if 2 ≤ htM mk n then htM mk n - 1 else -1) else htM mk n + 1) = if htM mk' n < 0 then (-1 : Int) else if mk' n = 14 then (if 1 ≤ htM mk' n then htM mk' n else -1) else if mk' n = 15 ∨ mk' n = 16 then (if 2 ≤ htM mk' n then htM mk' n - 1 else -1) else htM mk' n + 1
    rw [htM_cg (fun k a b => h k a (by omega))]
    simp only [h1.1, h1.2.1, h1.2.2]
theorem stV_cg {mk mk' tv tv' : Int → Int} : ∀ {n : Nat}, (∀ k : Int, 0 ≤ k → k < n → ((mk k = 14 ↔ mk' k = 14) ∧ (mk k = 15 ↔ mk' k = 15) ∧ (mk k = 16 ↔ mk' k = 16)) ∧ (mk k ≠ 14 → mk k ≠ 15 → mk k ≠ 16 → tv k = tv' k)) → stV mk tv n = stV mk' tv' n
  | 0, _ => rfl
  | n + 1, h => by
    have h1 := h n (by omega) (by omega)
    have e1 := htM_cg (mk := mk) (mk' := mk') (n := n) (fun k a b => (h k a (by omega)).1)
    show (if mk n = 14 then updI (stV mk tv n) (htM mk n - 1) (if stV mk tv n (htM mk n - 1) = 0 then 1 else 0)
    else if mk n = 15 then updI (stV mk tv n) (htM mk n - 2) (if stV mk tv n (htM mk n - 2) ≠ 0 ∧ stV mk tv n (htM mk n - 1) ≠ 0 then 1 else 0)
    else if mk n = 16 then updI (stV mk tv n) (htM mk n - 2) (if stV mk tv n (htM mk n - 2) ≠ 0 ∨ stV mk tv n (htM mk n - 1) ≠ 0 then 1 else 0)
    else updI (stV mk tv n) (htM mk n) (tv n)) = (if mk' n = 14 then updI (stV mk' tv' n) (htM mk' n - 1) (if stV mk' tv' n (htM mk' n - 1) = 0 then 1 else 0)
    else if mk' n = 15 then updI (stV mk' tv' n) (htM mk' n - 2) (if stV mk' tv' n (htM mk' n - 2) ≠ 0 ∧ stV mk' tv' n (htM mk' n - 1) ≠ 0 then 1 else 0)
    else if mk' n = 16 then updI (stV mk' tv' n) (htM mk' n - 2) (if stV mk' tv' n (htM mk' n - 2) ≠ 0 ∨ stV mk' tv' n (htM mk' n - 1) ≠ 0 then 1 else 0)
    else updI (stV mk' tv' n) (htM mk' n) (tv' n))
    rw [stV_cg (fun k a b => h k a (by omega)), e1]
    by_cases a : mk n = 14
    · rw [if_pos a, if_pos (h1.1.1.mp a)]
    · have a' := fun x => a (h1.1.1.mpr x)
      by_cases b : mk n = 15
      · rw [if_neg a, if_neg a', if_pos b, if_pos (h1.1.2.1.mp b)]
      · have b' := fun x => b (h1.1.2.1.mpr x)
        by_cases c : mk n = 16
        · rw [if_neg a, if_neg a', if_neg b, if_neg b', if_pos c, if_pos (h1.1.2.2.mp c)]
        · have c' := fun x => c (h1.1.2.2.mpr x)
          rw [if_neg a, if_neg a', if_neg b, if_neg b', if_neg c, if_neg c', h1.2 a b c]
/-- a class law's cell with its rows -/
def isLw (c : Nat) : Prop := gL[c]? = some (.inl 4) ∧ gL[c + 1]? = some (.inr (0, 8)) ∧ gL[c + 2]? = some (.inr (0, 10)) ∧ gL[c + 3]? = some (.inr (0, 10)) ∧ gL[c + 4]? = some (.inr (0, 120)) ∧ gL[c + 5]? = some (.inr (0, 120)) ∧ gL[c + 6]? = some (.inr (0, 120)) ∧
  gRef c 9 = ((c + 1 : Nat) : Int) ∧ gRef c 10 = ((c + 2 : Nat) : Int) ∧ gRef c 11 = ((c + 3 : Nat) : Int) ∧ gRef c 12 = ((c + 4 : Nat) : Int) ∧ gRef c 13 = ((c + 5 : Nat) : Int) ∧ gRef c 14 = ((c + 6 : Nat) : Int)
def lwF (c : Nat) : Prop := ∀ i, isF c i = true ∧ isF (c + 1) i = true ∧ isF (c + 2) i = true ∧ isF (c + 3) i = true ∧ isF (c + 4) i = true ∧ isF (c + 5) i = true ∧ isF (c + 6) i = true
def clw (i : Int) : Nat := 68 + 7 * i.toNat
theorem lw_59 : isLw 59 ∧ lwF 59 := ⟨by unfold isLw; decide +kernel, fun _ => ⟨rfl, rfl, rfl, rfl, rfl, rfl, rfl⟩⟩
theorem lw_at {i : Int} (h0 : 0 ≤ i) (h1 : i < 6) : isLw (clw i) ∧ lwF (clw i) := by
  rcases (show i = 0 ∨ i = 1 ∨ i = 2 ∨ i = 3 ∨ i = 4 ∨ i = 5 by omega) with rfl | rfl | rfl | rfl | rfl | rfl
  · exact ⟨by unfold isLw; decide +kernel, fun _ => ⟨rfl, rfl, rfl, rfl, rfl, rfl, rfl⟩⟩
  · exact ⟨by unfold isLw; decide +kernel, fun _ => ⟨rfl, rfl, rfl, rfl, rfl, rfl, rfl⟩⟩
  · exact ⟨by unfold isLw; decide +kernel, fun _ => ⟨rfl, rfl, rfl, rfl, rfl, rfl, rfl⟩⟩
  · exact ⟨by unfold isLw; decide +kernel, fun _ => ⟨rfl, rfl, rfl, rfl, rfl, rfl, rfl⟩⟩
  · exact ⟨by unfold isLw; decide +kernel, fun _ => ⟨rfl, rfl, rfl, rfl, rfl, rfl, rfl⟩⟩
  · exact ⟨by unfold isLw; decide +kernel, fun _ => ⟨rfl, rfl, rfl, rfl, rfl, rfl, rfl⟩⟩
theorem law_at {σ : gH} (h : S_law σ) {i : Int} (h0 : 0 ≤ i) (h1 : i < σ 57 2) : lawR σ (clw i) i.toNat := by
  have k := h.2.2.2.2.1
  have h6 := h.2.2.1
  rcases (show i = 0 ∨ i = 1 ∨ i = 2 ∨ i = 3 ∨ i = 4 ∨ i = 5 by omega) with rfl | rfl | rfl | rfl | rfl | rfl
  · exact k.1 h1
  · exact k.2.1 h1
  · exact k.2.2.1 h1
  · exact k.2.2.2.1 h1
  · exact k.2.2.2.2.1 h1
  · exact k.2.2.2.2.2 h1
/-- the law of number l (-1: none) as class and reference have it -/
def LWR (σ : gH) (c : Nat) (l : Int) : Prop := (l = -1 ∧ c = 59 ∧ S_emp σ) ∨ (0 ≤ l ∧ l < σ 57 2 ∧ l < 6 ∧ c = clw l ∧ lawR σ c l.toNat)
def NU (σ : gH) (l k : Int) : Int := if l = -1 then σ 183 k else σ 177 (5 * l + k)
def TE (σ : gH) (l : Int) : Int := if l = -1 then 0 else σ 175 l
def WI (σ : gH) (l k : Int) : Int := σ 176 (8 * l + k)
theorem LWR.is {σ : gH} {c : Nat} {l : Int} (h : LWR σ c l) : isLw c ∧ lwF c := by
  rcases h with h | h
  · rw [h.2.1]; exact lw_59
  · rw [h.2.2.2.1]; exact lw_at h.1 h.2.2.1
theorem LWR.num {σ : gH} {c : Nat} {l : Int} (h : LWR σ c l) : (σ c 4 = NU σ l 0 ∧ 0 ≤ NU σ l 0 ∧ NU σ l 0 ≤ 4) ∧ (σ c 5 = NU σ l 1 ∧ 1 ≤ NU σ l 1 ∧ NU σ l 1 ≤ 999) ∧ (σ c 6 = NU σ l 2 ∧ 0 ≤ NU σ l 2 ∧ NU σ l 2 ≤ 3650) ∧ (σ c 7 = NU σ l 3 ∧ 1 ≤ NU σ l 3 ∧ NU σ l 3 ≤ 999) ∧ (σ c 8 = NU σ l 4 ∧ 0 ≤ NU σ l 4 ∧ NU σ l 4 ≤ 12) ∧ (σ c 3 = TE σ l ∧ 0 ≤ TE σ l ∧ TE σ l ≤ 8) ∧ 0 ≤ σ c 15 ∧ σ c 15 ≤ 120 := by
  rcases h with ⟨rfl, rfl, e⟩ | ⟨h0, _, h6, rfl, h⟩
  · obtain ⟨e0, e1, e3, e4, e5, e6, e7, e8, e15, er, u0, u1, u2, u3, u4, _⟩ := e
    unfold NU TE
    simp only [if_true]
    omega
  · obtain ⟨a1, a2, a3, a4, a5, a6, a7, a8, b0, b1, b2, b3, b4, z0, z1, zr⟩ := h
    have el : ((l.toNat : Nat) : Int) = l := Int.toNat_of_nonneg h0
    rw [el] at a5 b0 b1 b2 b3 b4
    unfold NU TE
    simp only [if_neg (show ¬ l = -1 by omega), Int.add_zero]
    omega
theorem LWR.within {σ : gH} {c : Nat} {l k : Int} (h : LWR σ c l) (h0 : 0 ≤ k) (h1 : k < TE σ l) : σ (c + 1) k = WI σ l k ∧ 0 ≤ WI σ l k ∧ WI σ l k ≤ 999 := by
  rcases h with ⟨rfl, rfl, e⟩ | ⟨h2, _, h6, rfl, h⟩
  · unfold TE at h1
    simp only [if_true] at h1
    omega
  · obtain ⟨a1, a2, a3, a4, a5, a6, a7, a8, _⟩ := h
    have el : ((l.toNat : Nat) : Int) = l := Int.toNat_of_nonneg h2
    unfold TE at h1
    rw [if_neg (show ¬ l = -1 by omega)] at h1
    rw [el] at a5
    have r := a8 k h0 (by omega)
    rw [el] at r
    unfold WI
    exact ⟨r.1.symm, by rw [r.1]; exact r.2.1, by rw [r.1]; exact r.2.2⟩
abbrev TVp (v s n : Int) : Prop := if s = 60 then v < n else if s = 61 then v = n else if s = 62 then n < v else v ≠ 0
abbrev isMeM (p : Int) : Prop := p = 7 ∨ p = 8 ∨ p = 9 ∨ p = 10 ∨ p = 12 ∨ p = 13
abbrev TVm (v p s n : Int) : Prop := if isMeM p then (if s = 60 then v < n else if s = 61 then v = n else n < v) else 0 < v
def cod (p : Int) : Int := if p = 20 then 14 else if p = 21 then 15 else if p = 22 then 16 else if 14 ≤ p then 0 else p
/-- the class's condition r of the law at c, over the row of values -/
def HOc (σ : gH) (c : Nat) (r : Int) : Int := if σ (c + 2) r < σ (c + 3) r then stV (fun k => σ (c + 4) (σ (c + 2) r + k)) (fun k => gb (TVp (σ 111 (σ (c + 4) (σ (c + 2) r + k))) (σ (c + 5) (σ (c + 2) r + k)) (σ (c + 6) (σ (c + 2) r + k)))) (σ (c + 3) r - σ (c + 2) r).toNat 0 else 0
/-- the reference's condition r of the law l, over the facts F -/
def HM (σ : gH) (l r : Int) (F : Int → Int) : Int := if l = -1 ∨ σ 178 (10 * l + r) = -1 then 0 else stV (fun k => cod (σ 180 (200 * l + σ 178 (10 * l + r) + k))) (fun k => gb (TVm (F (σ 180 (200 * l + σ 178 (10 * l + r) + k))) (σ 180 (200 * l + σ 178 (10 * l + r) + k)) (σ 181 (200 * l + σ 178 (10 * l + r) + k)) (σ 182 (200 * l + σ 178 (10 * l + r) + k)))) (σ 179 (10 * l + r) - σ 178 (10 * l + r)).toNat 0
/-- a row of marks that comes out with one answer, never more than 64 open -/
def wfP (n : Int) (mk : Int → Int) : Prop := 0 < n ∧ htM mk n.toNat = 1 ∧ ∀ k : Nat, (k : Int) ≤ n → htM mk k ≤ 64
theorem wfP.at {n k : Int} {mk : Int → Int} (h : wfP n mk) (h0 : 0 ≤ k) (h1 : k < n) : 0 ≤ htM mk k.toNat ∧ htM mk k.toNat ≤ 64 ∧ 0 ≤ htM mk (k + 1).toNat ∧ htM mk (k + 1).toNat ≤ 64 ∧ (mk k = 14 → 1 ≤ htM mk k.toNat ∧ htM mk (k + 1).toNat = htM mk k.toNat) ∧ (mk k = 15 ∨ mk k = 16 → 2 ≤ htM mk k.toNat ∧ htM mk (k + 1).toNat = htM mk k.toNat - 1) ∧ (mk k ≠ 14 → mk k ≠ 15 → mk k ≠ 16 → htM mk (k + 1).toNat = htM mk k.toNat + 1) := by
  have e : (k + 1).toNat = k.toNat + 1 := by omega
  have ek : ((k.toNat : Nat) : Int) = k := Int.toNat_of_nonneg h0
  have p := htM_pos (mk := mk) (n := n.toNat) (by rw [h.2.1]; omega)
  have p0 := p k.toNat (by omega)
  have p1 := p (k.toNat + 1) (by omega)
  have s := htM_step p0 p1
  rw [ek] at s
  rw [e]
  exact ⟨p0, h.2.2 _ (by omega), p1, h.2.2 _ (by omega), s.1, s.2.1, s.2.2⟩
theorem LWR.rule {σ : gH} {c : Nat} {l r : Int} (h : LWR σ c l) (h0 : 0 ≤ r) (h1 : r < 10) : (σ (c + 2) r = σ (c + 3) r ∧ (l = -1 ∨ σ 178 (10 * l + r) = -1)) ∨ (l ≠ -1 ∧ rulR (σ (c + 2) r) (σ (c + 3) r) (σ c 15) (σ (c + 4)) (σ (c + 5)) (σ (c + 6)) (σ 178 (10 * l + r)) (σ 179 (10 * l + r)) (fun k => σ 180 (200 * l + k)) (fun k => σ 181 (200 * l + k)) (fun k => σ 182 (200 * l + k)) r ∧ 0 ≤ σ (c + 2) r ∧ σ (c + 2) r < σ (c + 3) r ∧ σ (c + 3) r ≤ 120 ∧ 0 ≤ σ 178 (10 * l + r) ∧ σ 179 (10 * l + r) ≤ 200 ∧ σ 179 (10 * l + r) - σ 178 (10 * l + r) = σ (c + 3) r - σ (c + 2) r) := by
  rcases h with ⟨rfl, rfl, e⟩ | ⟨h2, _, h6, rfl, h⟩
  · refine Or.inl ⟨?_, Or.inl rfl⟩
    have er := e.2.2.2.2.2.2.2.2.2.1 r
    exact er.1.trans er.2.symm
  · obtain ⟨a1, a2, a3, a4, a5, a6, a7, a8, b0, b1, b2, b3, b4, z0, z1, zr⟩ := h
    have el : ((l.toNat : Nat) : Int) = l := Int.toNat_of_nonneg h2
    have q := zr r h0 h1
    rw [el] at q
    rcases id q with q1 | q1
    · exact Or.inl ⟨q1.1, Or.inr q1.2⟩
    · exact Or.inr ⟨by omega, q, q1.1, q1.2.1, by omega, q1.2.2.2.1, q1.2.2.2.2.2.1, q1.2.2.2.2.1⟩
theorem cod_rn {m : Int} (h : (0 ≤ m ∧ m ≤ 13) ∨ m = 14 ∨ m = 15 ∨ m = 16) : (m = 14 ↔ cod (rnM m) = 14) ∧ (m = 15 ↔ cod (rnM m) = 15) ∧ (m = 16 ↔ cod (rnM m) = 16) := by
  rcases (show m = 0 ∨ m = 1 ∨ m = 2 ∨ m = 3 ∨ m = 4 ∨ m = 5 ∨ m = 6 ∨ m = 7 ∨ m = 8 ∨ m = 9 ∨ m = 10 ∨ m = 11 ∨ m = 12 ∨ m = 13 ∨ m = 14 ∨ m = 15 ∨ m = 16 by omega) with rfl | rfl | rfl | rfl | rfl | rfl | rfl | rfl | rfl | rfl | rfl | rfl | rfl | rfl | rfl | rfl | rfl <;> decide
theorem meas_rn {m : Int} (h : 0 ≤ m ∧ m ≤ 13) : isMeas m ↔ isMeM (rnM m) := by
  rcases (show m = 0 ∨ m = 1 ∨ m = 2 ∨ m = 3 ∨ m = 4 ∨ m = 5 ∨ m = 6 ∨ m = 7 ∨ m = 8 ∨ m = 9 ∨ m = 10 ∨ m = 11 ∨ m = 12 ∨ m = 13 by omega) with rfl | rfl | rfl | rfl | rfl | rfl | rfl | rfl | rfl | rfl | rfl | rfl | rfl | rfl <;> decide
theorem atm_in {r m : Int} (h : isAtm r m) : 0 ≤ m ∧ m ≤ 13 := by
  unfold isAtm at h
  split at h <;> omega
/-- class and reference come out alike, if their values do -/
theorem HO_HM {σ : gH} {c : Nat} {l r : Int} {F : Int → Int} (h : LWR σ c l) (h0 : 0 ≤ r) (h1 : r < 10) (hF : ∀ m, isAtm r m → (∃ i, 0 ≤ i ∧ i < σ c 15 ∧ σ (c + 4) i = m) → σ 111 m = F (rnM m) ∧ (¬ isMeas m → σ 111 m = 0 ∨ σ 111 m = 1)) : HOc σ c r = HM σ l r F := by
  unfold HOc HM
  rcases h.rule h0 h1 with ⟨e, q⟩ | ⟨nl, q, b0, b1, b2, f0, f1, fe⟩
  · rw [if_neg (by omega), if_pos q]
  · rw [if_pos b1, if_neg (by omega), fe]
    rcases q with q | ⟨q1, q2, q3, q4, q5, q6, q7, q8, q9⟩
    · omega
    · refine congrFun (stV_cg fun k k0 k1 => ?_) 0
      obtain ⟨u1, u2, u3, u4⟩ := q9 k k0 (by omega)
      have ep : σ 180 (200 * l + σ 178 (10 * l + r) + k) = rnM (σ (c + 4) (σ (c + 2) r + k)) := by
        rw [← u2, Int.add_assoc]
      have em : (0 ≤ σ (c + 4) (σ (c + 2) r + k) ∧ σ (c + 4) (σ (c + 2) r + k) ≤ 13) ∨ σ (c + 4) (σ (c + 2) r + k) = 14 ∨ σ (c + 4) (σ (c + 2) r + k) = 15 ∨ σ (c + 4) (σ (c + 2) r + k) = 16 := u1.imp atm_in id
      simp only [ep]
      refine ⟨cod_rn em, fun n1 n2 n3 => ?_⟩
      have ea : isAtm r (σ (c + 4) (σ (c + 2) r + k)) := by
        rcases u1 with x | x
        · exact x
        · omega
      obtain ⟨v1, v2⟩ := hF _ ea ⟨σ (c + 2) r + k, by omega, by omega, rfl⟩
      have mr := meas_rn (atm_in ea)
      by_cases mm : isMeas (σ (c + 4) (σ (c + 2) r + k))
      · obtain ⟨w1, w2, w3⟩ := u3 mm
        have w2' : σ 181 (200 * l + σ 178 (10 * l + r) + k) = σ (c + 5) (σ (c + 2) r + k) := by rw [← w2, Int.add_assoc]
        have w3' : σ 182 (200 * l + σ 178 (10 * l + r) + k) = σ (c + 6) (σ (c + 2) r + k) := by rw [← w3, Int.add_assoc]
        rw [w2', w3', v1]
        refine gb_congr ?_
        unfold TVp TVm
        rw [if_pos (mr.mp mm)]
        rcases w1 with w | w | w <;> rw [w] <;> simp
      · have z := u4 mm
        have v3 := v2 mm
        rw [z, ← v1]
        refine gb_congr ?_
        unfold TVp TVm
        rw [if_neg (fun x => mm (mr.mpr x))]
        simp only [show ¬ ((0 : Int) = 60) by omega, show ¬ ((0 : Int) = 61) by omega, show ¬ ((0 : Int) = 62) by omega, if_false]
        omega
/-- the facts matter under the codes that stand there alone -/
theorem HM_congr {σ : gH} {c : Nat} {l r : Int} {F F' : Int → Int} (h : LWR σ c l) (h0 : 0 ≤ r) (h1 : r < 10) (hF : ∀ m, isAtm r m → (∃ i, 0 ≤ i ∧ i < σ c 15 ∧ σ (c + 4) i = m) → F (rnM m) = F' (rnM m)) : HM σ l r F = HM σ l r F' := by
  unfold HM
  rcases h.rule h0 h1 with ⟨e, q⟩ | ⟨nl, q, b0, b1, b2, f0, f1, fe⟩
  · rw [if_pos q, if_pos q]
  · rw [if_neg (by omega), if_neg (by omega), fe]
    rcases q with q | ⟨q1, q2, q3, q4, q5, q6, q7, q8, q9⟩
    · omega
    · refine congrFun (stV_cg fun k k0 k1 => ⟨⟨Iff.rfl, Iff.rfl, Iff.rfl⟩, fun n1 n2 n3 => ?_⟩) 0
      obtain ⟨u1, u2, u3, u4⟩ := q9 k k0 (by omega)
      have ep : σ 180 (200 * l + σ 178 (10 * l + r) + k) = rnM (σ (c + 4) (σ (c + 2) r + k)) := by
        rw [← u2, Int.add_assoc]
      have em : (0 ≤ σ (c + 4) (σ (c + 2) r + k) ∧ σ (c + 4) (σ (c + 2) r + k) ≤ 13) ∨ σ (c + 4) (σ (c + 2) r + k) = 14 ∨ σ (c + 4) (σ (c + 2) r + k) = 15 ∨ σ (c + 4) (σ (c + 2) r + k) = 16 := u1.imp atm_in id
      have cr := cod_rn em
      simp only [ep] at n1 n2 n3 ⊢
      have ea : isAtm r (σ (c + 4) (σ (c + 2) r + k)) := by
        rcases u1 with x | x | x | x
        · exact x
        · exact absurd (cr.1.mp x) n1
        · exact absurd (cr.2.1.mp x) n2
        · exact absurd (cr.2.2.mp x) n3
      rw [hF _ ea ⟨σ (c + 2) r + k, by omega, by omega, rfl⟩]
/-- the reference's marks are as well laid -/
theorem LWR.wfM {σ : gH} {c : Nat} {l r : Int} (h : LWR σ c l) (h0 : 0 ≤ r) (h1 : r < 10) (hn : ¬ (l = -1 ∨ σ 178 (10 * l + r) = -1)) : wfP (σ 179 (10 * l + r) - σ 178 (10 * l + r)) (fun k => cod (σ 180 (200 * l + σ 178 (10 * l + r) + k))) ∧ ∀ k, 0 ≤ k → k < σ 179 (10 * l + r) - σ 178 (10 * l + r) → (0 ≤ σ 180 (200 * l + σ 178 (10 * l + r) + k) ∧ σ 180 (200 * l + σ 178 (10 * l + r) + k) ≤ 13) ∨ σ 180 (200 * l + σ 178 (10 * l + r) + k) = 20 ∨ σ 180 (200 * l + σ 178 (10 * l + r) + k) = 21 ∨ σ 180 (200 * l + σ 178 (10 * l + r) + k) = 22 := by
  rcases h.rule h0 h1 with ⟨e, q⟩ | ⟨nl, q, b0, b1, b2, f0, f1, fe⟩
  · exact absurd q hn
  · rcases q with q | ⟨q1, q2, q3, q4, q5, q6, q7, q8, q9⟩
    · omega
    · have key : ∀ k, 0 ≤ k → k < σ (c + 3) r - σ (c + 2) r → σ 180 (200 * l + σ 178 (10 * l + r) + k) = rnM (σ (c + 4) (σ (c + 2) r + k)) ∧ ((0 ≤ σ (c + 4) (σ (c + 2) r + k) ∧ σ (c + 4) (σ (c + 2) r + k) ≤ 13) ∨ σ (c + 4) (σ (c + 2) r + k) = 14 ∨ σ (c + 4) (σ (c + 2) r + k) = 15 ∨ σ (c + 4) (σ (c + 2) r + k) = 16) := fun k k0 k1 => by
        obtain ⟨u1, u2, u3, u4⟩ := q9 k k0 k1
        exact ⟨by rw [← u2, Int.add_assoc], u1.imp atm_in id⟩
      have eh : ∀ n : Nat, (n : Int) ≤ σ (c + 3) r - σ (c + 2) r → htM (fun k => cod (σ 180 (200 * l + σ 178 (10 * l + r) + k))) n = htM (fun k => σ (c + 4) (σ (c + 2) r + k)) n := fun n hn2 => htM_cg fun k k0 k1 => by
        obtain ⟨w1, w2⟩ := key k k0 (by omega)
        have cr := cod_rn w2
        simp only [w1]
        exact ⟨cr.1.symm, cr.2.1.symm, cr.2.2.symm⟩
      rw [fe]
      refine ⟨⟨by omega, ?_, fun k hk => ?_⟩, fun k k0 k1 => ?_⟩
      · rw [eh _ (by omega)]; exact q7
      · rw [eh k hk]; exact q8 k hk
      · obtain ⟨w1, w2⟩ := key k k0 k1
        rw [w1]
        generalize σ (c + 4) (σ (c + 2) r + k) = m at w2
        rcases (show m = 0 ∨ m = 1 ∨ m = 2 ∨ m = 3 ∨ m = 4 ∨ m = 5 ∨ m = 6 ∨ m = 7 ∨ m = 8 ∨ m = 9 ∨ m = 10 ∨ m = 11 ∨ m = 12 ∨ m = 13 ∨ m = 14 ∨ m = 15 ∨ m = 16 by omega) with rfl | rfl | rfl | rfl | rfl | rfl | rfl | rfl | rfl | rfl | rfl | rfl | rfl | rfl | rfl | rfl | rfl <;> decide
