/-! the rows of owners by their order: what the loading of a day keeps -/
theorem sumI_const {c : Int} : ∀ {n : Nat}, sumI (fun _ => c) n = c * n
  | 0 => by show (0 : Int) = c * ((0 : Nat) : Int); simp
  | n + 1 => by
    show sumI (fun _ => c) n + c = c * ((n + 1 : Nat) : Int)
    rw [sumI_const (n := n), show ((n + 1 : Nat) : Int) = (n : Int) + 1 by omega, Int.mul_add, Int.mul_one]
theorem ord_le {σ : gH} (h : S_ord σ) {i : Int} (h0 : 0 ≤ i) : ∀ (n : Nat), i + n < σ 15 6 → σ 16 (σ 22 i) < σ 16 (σ 22 (i + n)) ∨ (σ 16 (σ 22 i) = σ 16 (σ 22 (i + n)) ∧ σ 17 (σ 22 i) ≤ σ 17 (σ 22 (i + n)))
  | 0, _ => Or.inr ⟨by simp, by simp⟩
  | n + 1, h1 => by
    have ih := ord_le h h0 n (by omega)
    have st := h.2.2.1 (i + n) (by omega) (by omega)
    rw [show i + ((n + 1 : Nat) : Int) = i + n + 1 by omega]
    omega
theorem ord_le2 {σ : gH} (h : S_ord σ) {i j : Int} (h0 : 0 ≤ i) (h1 : i ≤ j) (h2 : j < σ 15 6) : σ 16 (σ 22 i) < σ 16 (σ 22 j) ∨ (σ 16 (σ 22 i) = σ 16 (σ 22 j) ∧ σ 17 (σ 22 i) ≤ σ 17 (σ 22 j)) := by
  have r := ord_le h h0 (j - i).toNat (by omega)
  rw [show i + ((j - i).toNat : Int) = j by omega] at r
  exact r
/-- one row's part between two -/
def apT (σ : gH) (d t x f j : Int) : Int := if σ 16 j = x ∧ σ 17 j = f ∧ liv (σ 21) (σ 19) (σ 20) d t j then σ 18 j else 0
def AP (σ : gH) (d t i x f : Int) : Int := sumI (fun j => apT σ d t x f (σ 22 j)) i.toNat
theorem AP_s {σ : gH} {d t i x f : Int} (h : 0 ≤ i) : AP σ d t (i + 1) x f = AP σ d t i x f + apT σ d t x f (σ 22 i) := sumI_s h
theorem AP_n {σ : gH} {d t x f : Int} (h : S_ord σ) : AP σ d t (σ 15 6) x f = AR σ d t x f := h.2.1 (fun j => apT σ d t x f j)
/-- what is known of a row of owners -/
theorem own_row {σ : gH} (hI : Inv σ) {r : Int} (h0 : 0 ≤ r) (h1 : r < σ 15 6) : (0 ≤ σ 16 r ∧ σ 16 r < σ 3 2) ∧ (0 ≤ σ 17 r ∧ σ 17 r < σ 3 2) ∧ σ 16 r ≠ σ 17 r ∧ 1 ≤ σ 18 r ∧ σ 18 r ≤ 10000 := by
  have k := (hI.f.own.2.2.2 r h0 h1).2.2.2.2.2.2
  unfold isHo isP at k
  exact ⟨k.1, k.2.1.1, k.2.2.1, k.2.2.2.1, k.2.2.2.2.1⟩
theorem apT_in {σ : gH} (hI : Inv σ) {d t x f r : Int} (h0 : 0 ≤ r) (h1 : r < σ 15 6) : 0 ≤ apT σ d t x f r ∧ apT σ d t x f r ≤ 10000 := by
  have k := own_row hI h0 h1
  unfold apT
  split <;> omega
theorem AP_in {σ : gH} (hI : Inv σ) {d t x f i : Int} (h0 : 0 ≤ i) (h1 : i ≤ σ 15 6) : 0 ≤ AP σ d t i x f ∧ AP σ d t i x f ≤ 10000 * i := by
  have hn := hI.f.own.2.2.1
  constructor
  · exact sumI_nonneg fun j a b => (apT_in hI (hI.ord.1 j a (by omega)).1 (hI.ord.1 j a (by omega)).2).1
  · have h2 : AP σ d t i x f ≤ sumI (fun _ => 10000) i.toNat := sumI_le fun j a b => (apT_in hI (hI.ord.1 j a (by omega)).1 (hI.ord.1 j a (by omega)).2).2
    rw [sumI_const] at h2
    omega
theorem AR_in {σ : gH} (hI : Inv σ) (d t x f : Int) : 0 ≤ AR σ d t x f ∧ AR σ d t x f ≤ 10000 := by
  have e : AR σ d t x f = sumI (apT σ d t x f) (σ 15 6).toNat := rfl
  have hn := hI.f.own
  constructor
  · rw [e]
    exact sumI_nonneg fun j a b => (apT_in hI a (by omega)).1
  · rw [e]
    refine Int.le_trans (sumI_le fun j a b => ?_) (hI.ord.2.2.2 f d)
    have k := own_row hI a (r := j) (by omega)
    unfold apT liv
    split
    · rw [if_pos (by omega)]; omega
    · split <;> omega
/-- none holds a part of one that is not there; none holds a part of itself -/
theorem AR_out {σ : gH} (hI : Inv σ) {d t x f : Int} (h : x < 0 ∨ σ 3 2 ≤ x ∨ f < 0 ∨ σ 3 2 ≤ f ∨ x = f) : AR σ d t x f = 0 := by
  have e : AR σ d t x f = sumI (apT σ d t x f) (σ 15 6).toNat := rfl
  have hn := hI.f.own
  have e2 : sumI (apT σ d t x f) (σ 15 6).toNat = sumI (fun _ => 0) (σ 15 6).toNat := sumI_congr fun j a b => by
    have k := own_row hI a (r := j) (by omega)
    unfold apT
    rw [if_neg (by omega)]
  rw [e, e2, sumI_zero]
/-- a person is not owned -/
theorem AR_pe {σ : gH} (hI : Inv σ) {d t x f : Int} (h : σ 4 f = 0) : AR σ d t x f = 0 := by
  have e : AR σ d t x f = sumI (apT σ d t x f) (σ 15 6).toNat := rfl
  have hn := hI.f.own
  have e2 : sumI (apT σ d t x f) (σ 15 6).toNat = sumI (fun _ => 0) (σ 15 6).toNat := sumI_congr fun j a b => by
    have k := (hI.f.own.2.2.2 j a (by omega)).2.2.2.2.2.2.2.1.2
    unfold apT
    rw [if_neg (fun c => k (by rw [c.2.1]; exact h))]
  rw [e, e2, sumI_zero]
theorem AR_hm {σ σ' : gH} (h : hm σ' = hm σ) (d t : Int) : AR σ' d t = AR σ d t := by
  show AR (hm σ') d t = AR (hm σ) d t
  rw [h]
theorem AR_lm {σ σ' : gH} (h : lm σ' = lm σ) (d t : Int) : AR σ' d t = AR σ d t := by
  show AR (lm σ') d t = AR (lm σ) d t
  rw [h]
/-- loading: i rows are done, the last of them of owner w, m arrows stand -/
def LDI (σ : gH) (d t i w m : Int) (S T P : Int → Int) : Prop := 0 ≤ i ∧ i ≤ σ 15 6 ∧ 0 ≤ w ∧ w < 60 ∧ 0 ≤ m ∧ m ≤ i ∧ ARW (vS S w m) T P (AP σ d t i) ∧
  ∀ j, i ≤ j → j < σ 15 6 → w ≤ σ 16 (σ 22 j) ∧ (S w < m → σ 16 (σ 22 j) = w → T (m - 1) ≤ σ 17 (σ 22 j))
/-- loading row i, which is live -/
def LDJ (σ : gH) (d t i w m : Int) (S T P : Int → Int) : Prop := 0 ≤ i ∧ i < σ 15 6 ∧ 0 ≤ w ∧ w < 60 ∧ 0 ≤ m ∧ m ≤ i ∧ ARW (vS S w m) T P (AP σ d t i) ∧ w ≤ σ 16 (σ 22 i) ∧ (S w < m → σ 16 (σ 22 i) = w → T (m - 1) ≤ σ 17 (σ 22 i))
theorem LDI.start {σ : gH} {d t : Int} {S T P : Int → Int} (hI : Inv σ) (h : S 0 = 0) : LDI σ d t 0 0 0 S T P := by
  refine ⟨by omega, hI.f.own.2.1, by omega, by omega, by omega, by omega, ARW_nil h, fun j a b => ?_⟩
  have k := own_row hI (hI.ord.1 j a b).1 (hI.ord.1 j a b).2
  exact ⟨k.1.1, fun c => by omega⟩
theorem LDI.skip {σ : gH} {d t i w m : Int} {S T P : Int → Int} (h1 : i < σ 15 6) (hl : ¬ liv (σ 21) (σ 19) (σ 20) d t (σ 22 i)) (h : LDI σ d t i w m S T P) : LDI σ d t (i + 1) w m S T P := by
  obtain ⟨a1, a2, a3, a4, a5, a6, a7, a8⟩ := h
  refine ⟨by omega, by omega, a3, a4, a5, by omega, ARW_congr (fun _ _ _ => rfl) (fun _ _ _ => rfl) (fun _ _ _ => rfl) (fun x f _ _ _ _ => ?_) a7, fun j b c => a8 j (by omega) c⟩
  rw [AP_s a1]
  unfold apT
  rw [if_neg (fun c => hl c.2.2)]
  omega
theorem LDI.live {σ : gH} {d t i w m : Int} {S T P : Int → Int} (h1 : i < σ 15 6) (h : LDI σ d t i w m S T P) : LDJ σ d t i w m S T P := by
  obtain ⟨a1, a2, a3, a4, a5, a6, a7, a8⟩ := h
  exact ⟨a1, h1, a3, a4, a5, a6, a7, (a8 i (Int.le_refl _) h1).1, (a8 i (Int.le_refl _) h1).2⟩
theorem LDJ.up {σ : gH} (hI : Inv σ) {d t i w m : Int} {S T P : Int → Int} (hw : w < σ 16 (σ 22 i)) (h : LDJ σ d t i w m S T P) : LDJ σ d t i (w + 1) m (updI S (w + 1) m) T P := by
  obtain ⟨a1, a2, a3, a4, a5, a6, a7, a8, a9⟩ := h
  have k := own_row hI (hI.ord.1 i a1 a2).1 (hI.ord.1 i a1 a2).2
  have hp := hI.f.hp
  refine ⟨a1, a2, by omega, by omega, a5, a6, by rw [vS_step]; exact a7, by omega, fun c => ?_⟩
  rw [updI_eq] at c
  omega
theorem LDJ.lo {σ : gH} {d t i w m : Int} {S T P : Int → Int} (h : LDJ σ d t i w m S T P) : 0 ≤ S w ∧ S w ≤ m := by
  obtain ⟨a1, a2, a3, a4, a5, a6, a7, a8, a9⟩ := h
  have r := a7.2.1 w a3 a4
  rw [show vS S w m w = S w from if_pos (Int.le_refl w), show vS S w m (w + 1) = m from if_neg (by omega)] at r
  omega
theorem LDJ.big {σ : gH} (hI : Inv σ) {d t i w m : Int} {S T P : Int → Int} (h : LDJ σ d t i w m S T P) (hs : S w < m) : 0 < P (m - 1) ∧ P (m - 1) ≤ 2000000 := by
  obtain ⟨a1, a2, a3, a4, a5, a6, a7, a8, a9⟩ := h
  have r := a7.2.2.1 w a3 a4 (m - 1) (by rw [show vS S w m w = S w from if_pos (Int.le_refl w)]; omega) (by rw [show vS S w m (w + 1) = m from if_neg (by omega)]; omega)
  have b := AP_in hI (d := d) (t := t) (x := w) (f := T (m - 1)) a1 (by omega)
  have hn := hI.f.own.2.2.1
  omega
theorem LDJ.step {σ : gH} {d t i w : Int} (h0 : 0 ≤ i) (hw : w = σ 16 (σ 22 i)) (hl : liv (σ 21) (σ 19) (σ 20) d t (σ 22 i)) : ∀ x g, AP σ d t (i + 1) x g = AP σ d t i x g + if w = x ∧ σ 17 (σ 22 i) = g then σ 18 (σ 22 i) else 0 := by
  intro x g
  rw [AP_s h0]
  unfold apT
  by_cases c : w = x ∧ σ 17 (σ 22 i) = g
  · rw [if_pos c, if_pos ⟨hw ▸ c.1, c.2, hl⟩]
  · rw [if_neg c, if_neg (fun e => c ⟨hw.trans e.1, e.2.1⟩)]
theorem LDJ.merge {σ : gH} (hI : Inv σ) {d t i w m : Int} {S T P : Int → Int} (h : LDJ σ d t i w m S T P) (hw : ¬ w < σ 16 (σ 22 i)) (hl : liv (σ 21) (σ 19) (σ 20) d t (σ 22 i)) (hs : S w < m) (ht : T (m - 1) = σ 17 (σ 22 i)) : LDI σ d t (i + 1) w m S T (updI P (m - 1) (P (m - 1) + σ 18 (σ 22 i))) := by
  obtain ⟨a1, a2, a3, a4, a5, a6, a7, a8, a9⟩ := h
  have k := own_row hI (hI.ord.1 i a1 a2).1 (hI.ord.1 i a1 a2).2
  have ew : w = σ 16 (σ 22 i) := by omega
  refine ⟨by omega, by omega, a3, a4, a5, by omega, ARW_merge ⟨a3, a4⟩ hs ht (by omega) (fun x g _ _ _ _ => LDJ.step a1 ew hl x g) a7, fun j b c => ?_⟩
  have s := ord_le2 hI.ord a1 (j := j) (by omega) c
  refine ⟨by omega, fun _ e => by omega⟩
theorem LDJ.app {σ : gH} (hI : Inv σ) {d t i w m : Int} {S T P : Int → Int} (h : LDJ σ d t i w m S T P) (hw : ¬ w < σ 16 (σ 22 i)) (hl : liv (σ 21) (σ 19) (σ 20) d t (σ 22 i)) (hs : S w < m → T (m - 1) ≠ σ 17 (σ 22 i)) : LDI σ d t (i + 1) w (m + 1) S (updI T m (σ 17 (σ 22 i))) (updI P m (σ 18 (σ 22 i))) := by
  have lo := h.lo
  obtain ⟨a1, a2, a3, a4, a5, a6, a7, a8, a9⟩ := h
  have k := own_row hI (hI.ord.1 i a1 a2).1 (hI.ord.1 i a1 a2).2
  have ew : w = σ 16 (σ 22 i) := by omega
  have hp := hI.f.hp
  have hn := hI.f.own.2.2.1
  refine ⟨by omega, by omega, a3, a4, by omega, by omega, ARW_app ⟨a3, a4⟩ ⟨by omega, by omega⟩ lo.2 (by omega) (by omega) (fun c => by have := a9 c ew.symm; have := hs c; omega) (fun x g _ _ _ _ => LDJ.step a1 ew hl x g) a7, fun j b c => ?_⟩
  have s := ord_le2 hI.ord a1 (j := j) (by omega) c
  rw [show m + 1 - 1 = m by omega, updI_eq]
  refine ⟨by omega, fun _ e => by omega⟩
/-- behind all rows: the owners that are left -/
theorem ARW_fin {σ : gH} (hI : Inv σ) {d t w m : Int} {S T P : Int → Int} (hw : 60 ≤ w) (h : ARW (vS S w m) T P (AP σ d t (σ 15 6))) : ARW S T P (AR σ d t) :=
  ARW_congr (fun x _ b => (if_pos (by omega)).symm) (fun _ _ _ => rfl) (fun _ _ _ => rfl) (fun x f _ _ _ _ => (AP_n hI.ord).symm) h
