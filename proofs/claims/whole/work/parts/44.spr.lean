/-! who controls whom: the reference's search, the pure side -/
theorem sumI_upd {f : Int → Int} {k v : Int} {n : Nat} (h0 : 0 ≤ k) (h1 : k < n) : sumI (fun i => if i = k then v else f i) n = sumI f n - f k + v := by
  have e : sumI (fun i => if i = k then v else f i) n = sumI (fun i => f i + (if i = k then v - f k else 0)) n := sumI_congr fun i _ _ => by
    by_cases c : i = k
    · subst c
      rw [if_pos rfl, if_pos rfl]; omega
    · rw [if_neg c, if_neg c]; omega
  rw [e, sumI_add, sumI_one (f := fun i => if i = k then v - f k else 0) h0 h1 (fun i _ _ c => if_neg c), if_pos rfl]
  omega
theorem sumI_ext {f : Int → Int} {n : Nat} : ∀ {m : Nat}, n ≤ m → (∀ i : Int, n ≤ i → i < m → f i = 0) → sumI f m = sumI f n
  | 0, h, _ => by have : n = 0 := by omega
                  subst this; rfl
  | m + 1, h, hz => by
    by_cases e : n = m + 1
    · subst e; rfl
    · show sumI f m + f m = _
      rw [sumI_ext (n := n) (m := m) (by omega) (fun i a b => hz i a (by omega)), hz m (by omega) (by omega)]
      omega
/-- those found stand in row x of c, soundly -/
def SPs (A : Int → Int → Int) (x : Int) (c : Int → Int) : Prop := ∀ f, 0 ≤ f → f < 60 → c (60 * x + f) = 0 ∨ (c (60 * x + f) = 1 ∧ Ctl A x f)
abbrev spS (A : Int → Int → Int) (x f : Int) (c : Int → Int) (n : Int) : Int := sumI (fun g => if c (60 * x + g) = 1 then A g f else 0) n.toNat
abbrev spC (x : Int) (c : Int → Int) : Int := sumI (fun f => c (60 * x + f)) 60
theorem SPs.cnt {A : Int → Int → Int} {x : Int} {c : Int → Int} (h : SPs A x c) : 0 ≤ spC x c ∧ spC x c ≤ 60 := by
  constructor
  · exact sumI_nonneg fun f a b => by rcases h f a b with e | e <;> omega
  · have r : spC x c ≤ sumI (fun _ => 1) 60 := sumI_le fun f a b => by rcases h f a b with e | e <;> omega
    rw [sumI_const] at r
    omega
theorem SPs.set {A : Int → Int → Int} {x f n : Int} {c : Int → Int} (hp : ∀ c f, 0 ≤ A c f) (hf : 0 ≤ f ∧ f < 60) (hx : f ≠ x) (hn : 0 ≤ n ∧ n ≤ 60) (h : SPs A x c) (h0 : c (60 * x + f) = 0) (hs : 5000 < A x f + spS A x f c n) : SPs A x (updI c (60 * x + f) 1) ∧ spC x (updI c (60 * x + f) 1) = spC x c + 1 := by
  have hc : Ctl A x f := ⟨hf.1, hf.2, hx, fun U hU => hU f hf.1 hf.2 hx (by
    have r1 : spS A x f c n ≤ sumI (fun g => if c (60 * x + g) = 1 then A g f else 0) 60 := by
      have e : sumI (fun g => if g < n then (if c (60 * x + g) = 1 then A g f else 0) else 0) 60 = spS A x f c n := by
        rw [sumI_ext (n := n.toNat) (m := 60) (by omega) (fun i a b => if_neg (by omega))]
        exact sumI_congr fun i a b => if_pos (by omega)
      rw [← e]
      refine sumI_le fun g a b => ?_
      by_cases l : g < n
      · rw [if_pos l]; exact Int.le_refl _
      · rw [if_neg l]
        split
        · exact hp g f
        · exact Int.le_refl _
    have r2 : sumI (fun g => if c (60 * x + g) = 1 then A g f else 0) 60 ≤ sumI (fun g => if U g = true then A g f else 0) 60 := sumI_le fun g a b => by
      have := hp g f
      rcases h g a b with e | e
      · rw [if_neg (by omega)]
        split <;> omega
      · rw [if_pos e.1, if_pos (e.2.2.2.2 U hU)]; exact Int.le_refl _
    omega)⟩
  constructor
  · intro g a b
    by_cases e : g = f
    · subst e
      rw [updI_eq]
      exact Or.inr ⟨rfl, hc⟩
    · rw [updI_ne (by omega)]
      exact h g a b
  · have e : spC x (updI c (60 * x + f) 1) = sumI (fun i => if i = f then 1 else c (60 * x + i)) 60 := sumI_congr fun i _ _ => by
      by_cases e : i = f
      · subst e
        rw [updI_eq, if_pos rfl]
      · rw [updI_ne (by omega), if_neg e]
    rw [e, sumI_upd (f := fun i => c (60 * x + i)) hf.1 hf.2]
    show spC x c - c (60 * x + f) + 1 = spC x c + 1
    rw [h0]
    omega
theorem SPs.fin {A : Int → Int → Int} {x n : Int} {c : Int → Int} (hp : ∀ c f, 0 ≤ A c f) (hn : 0 ≤ n ∧ n ≤ 60) (hout : ∀ g f, n ≤ g ∨ n ≤ f → A g f = 0) (h : SPs A x c) (hc : ∀ f, 0 ≤ f → f < n → f ≠ x → c (60 * x + f) = 1 ∨ A x f + spS A x f c n ≤ 5000) : ∀ f, 0 ≤ f → f < 60 → c (60 * x + f) = if ctl A x f = true then 1 else 0 := by
  have cl : ctlC A x (fun f => decide (c (60 * x + f) = 1)) := by
    intro f f0 f1 f2 f3
    have e : sumI (fun g => if decide (c (60 * x + g) = 1) = true then A g f else 0) 60 = spS A x f c n := by
      rw [sumI_ext (n := n.toNat) (m := 60) (by omega) (fun i a b => by
        rw [hout i f (Or.inl (by omega))]
        split <;> rfl)]
      exact sumI_congr fun i _ _ => by simp only [decide_eq_true_eq]
    have f4 : 5000 < A x f + sumI (fun g => if decide (c (60 * x + g) = 1) = true then A g f else 0) 60 := f3
    rw [e] at f4
    show decide (c (60 * x + f) = 1) = true
    rw [decide_eq_true_eq]
    by_cases l : f < n
    · rcases hc f f0 l f2 with g | g
      · exact g
      · omega
    · exfalso
      have z : spS A x f c n = 0 := by
        have e2 : spS A x f c n = sumI (fun _ => 0) n.toNat := sumI_congr fun i _ _ => by
          rw [hout i f (Or.inr (by omega))]
          split <;> rfl
        rw [e2, sumI_zero]
      rw [hout x f (Or.inr (by omega)), z] at f4
      omega
  intro f a b
  rcases h f a b with e | e
  · rw [if_neg, e]
    intro k
    have := (ctl_iff.mp k).2.2.2 _ cl
    rw [decide_eq_true_eq, e] at this
    omega
  · rw [if_pos (ctl_iff.mpr e.2), e.1]
/-- who isn't there controls none -/
theorem Ctl_out {A : Int → Int → Int} {n x f : Int} (hout : ∀ g f, n ≤ g ∨ n ≤ f → A g f = 0) (h : n ≤ x ∨ n ≤ f) : ¬ Ctl A x f := by
  intro k
  have cl : ctlC A x (fun g => decide (x < n ∧ g < n)) := by
    intro g g0 g1 g2 g3
    show decide (x < n ∧ g < n) = true
    rw [decide_eq_true_eq]
    by_cases l : x < n ∧ g < n
    · exact l
    · exfalso
      have z : A x g = 0 := hout x g (by omega)
      have z2 : sumI (fun c => if decide (x < n ∧ c < n) = true then A c g else 0) 60 = sumI (fun _ => 0) 60 := sumI_congr fun i _ _ => by
        by_cases l2 : x < n ∧ i < n
        · rw [hout i g (by omega)]; split <;> rfl
        · rw [if_neg (by rw [decide_eq_true_eq]; exact l2)]
      have g4 : 5000 < A x g + sumI (fun c => if decide (x < n ∧ c < n) = true then A c g else 0) 60 := g3
      rw [z, z2, sumI_zero] at g4
      omega
  have := k.2.2.2 _ cl
  rw [decide_eq_true_eq] at this
  omega
theorem hdL_no {C R : Int → Bool} : ∀ (n : Nat) {y l : Int}, (∀ z, y ≤ z → z < y + n → C z = false) → hdL C R n y l = l
  | 0, _, _, _ => rfl
  | n + 1, y, l, h => by
    show (if C y = true then _ else hdL C R n (y + 1) l) = l
    rw [h y (by omega) (by omega), if_neg (by decide)]
    exact hdL_no n (fun z a b => h z (by omega) (by omega))
/-- what a day's working out leaves in the reference -/
def WK (A : Int → Int → Int) (n : Int) (P H C : Int → Int) : Prop := (∀ x f, 0 ≤ x → x < 60 → 0 ≤ f → f < 60 → P (60 * x + f) = A x f ∧ C (60 * x + f) = if ctl A x f = true then 1 else 0) ∧ ∀ x, 0 ≤ x → x < n → H x = HD A x
def kwOk (k : Nat) (i : Int) : Bool := if k = 133 then !(i == 47) && !(i == 48) && !(i == 49) else !(k == 168) && !(k == 169) && !(k == 170)
def KW (σ σ' : gH) : Prop := ∀ k i, kwOk k i = true → σ' k i = σ k i
theorem KW.rd {σ σ' : gH} (h : KW σ σ') {k : Nat} {i : Int} (hk : kwOk k i = true) : σ' k i = σ k i := h k i hk
theorem KW.refl {σ : gH} : KW σ σ := fun _ _ _ => rfl
theorem KW.trans {σ σ1 σ2 : gH} (a : KW σ σ1) (b : KW σ1 σ2) : KW σ σ2 := fun k i h => (b k i h).trans (a k i h)
theorem KW.up {σ σ1 : gH} {k : Nat} {i v : Int} (a : KW σ σ1) (h : kwOk k i = false) : KW σ (gUp σ1 k i v) := by
  intro q j hq
  have e : gUp σ1 k i v q j = σ1 q j := by
    unfold gUp gUr
    by_cases e1 : q = k
    · subst e1
      rw [if_pos rfl]
      by_cases e2 : j = i
      · subst e2
        rw [h] at hq
        cases hq
      · exact if_neg e2
    · rw [if_neg e1]
  rw [e]; exact a q j hq
theorem KW.ur {σ σ1 : gH} {k : Nat} {f : Int → Int} (a : KW σ σ1) (h : ∀ i, kwOk k i = false) : KW σ (gUr σ1 k f) := by
  intro q j hq
  have e : gUr σ1 k f q j = σ1 q j := by
    unfold gUr
    by_cases e1 : q = k
    · subst e1
      rw [h j] at hq
      cases hq
    · rw [if_neg e1]
  rw [e]; exact a q j hq
theorem work_end {σ0 σ : gH} (hI : Inv σ0) (hq : QM σ0 σ) {d t : Int} {P H C : Int → Int} (hW : WK (AR σ0 d t) (σ0 3 2) P H C) : QM σ0 (gUr (gUr (gUr (gUp (gUp (gUp σ 133 49 (σ0 133 7)) 133 47 d) 133 48 t) 168 P) 170 C) 169 H) := by
  have q0 : lm (gUp (gUp (gUp σ 133 49 (σ0 133 7)) 133 47 d) 133 48 t) = lm σ0 := (lm_up (by decide)).trans ((lm_up (by decide)).trans ((lm_up (by decide)).trans hq.1))
  have q1 := (lm_ur (f := H) (lm_nfC 169 (by decide))).trans ((lm_ur (f := C) (lm_nfC 170 (by decide))).trans ((lm_ur (f := P) (lm_nfC 168 (by decide))).trans q0))
  have e7 : σ 133 7 = σ0 133 7 := hq.rd (.inr rfl)
  have e6 : σ 133 6 = σ0 133 6 := hq.rd (.inr rfl)
  have e14 : σ 133 14 = σ0 133 14 := hq.rd (.inr rfl)
  have eA := AR_lm q1 d t
  refine ⟨q1, ?_, ?_, fun _ x a b => ⟨fun f c g => ?_, fun c => ?_⟩⟩
  · show σ 133 7 = 1 + σ 133 6 + σ 133 14
    rw [e7, e6, e14]; exact hI.mod.1
  · show σ0 133 7 ≤ σ 133 7
    omega
  · show P (60 * x + f) = AR (gUr (gUr (gUr (gUp (gUp (gUp σ 133 49 (σ0 133 7)) 133 47 d) 133 48 t) 168 P) 170 C) 169 H) d t x f ∧ C (60 * x + f) = if ctl (AR (gUr (gUr (gUr (gUp (gUp (gUp σ 133 49 (σ0 133 7)) 133 47 d) 133 48 t) 168 P) 170 C) 169 H) d t) x f = true then 1 else 0
    rw [eA]
    exact hW.1 x f a b c g
  · show H x = HD (AR (gUr (gUr (gUr (gUp (gUp (gUp σ 133 49 (σ0 133 7)) 133 47 d) 133 48 t) 168 P) 170 C) 169 H) d t) x
    rw [eA]
    have c2 : x < σ 133 6 := c
    rw [e6, hI.f6] at c2
    exact hW.2 x a c2
theorem work_hit {σ0 σ : gH} (hI : Inv σ0) (hq : QM σ0 σ) (h : σ 133 49 = σ0 133 7) : WK (AR σ0 (σ 133 47) (σ 133 48)) (σ0 3 2) (σ 168) (σ 169) (σ 170) := by
  have e7 : σ 133 7 = σ0 133 7 := hq.rd (.inr rfl)
  have e6 : σ 133 6 = σ0 133 6 := hq.rd (.inr rfl)
  have k := hq.2.2.2 (by omega)
  rw [AR_lm hq.1] at k
  refine ⟨fun x f a b c d => (k x a b).1 f c d, fun x a b => (k x a (by have := hI.f.hp; omega)).2 (by rw [e6, hI.f6]; exact b)⟩
