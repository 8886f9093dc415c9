/-! a day's arrows laid out row by row: the pure side -/
/-- the starts as they will be if nothing more comes -/
def vS (S : Int → Int) (w m : Int) : Int → Int := fun x => if x ≤ w then S x else m
theorem ARW_congr {S S' T T' P P' : Int → Int} {A A' : Int → Int → Int} (hS : ∀ x, 0 ≤ x → x ≤ 60 → S' x = S x) (hT : ∀ k, 0 ≤ k → k < 200 → T' k = T k) (hP : ∀ k, 0 ≤ k → k < 200 → P' k = P k) (hA : ∀ x f, 0 ≤ x → x < 60 → 0 ≤ f → f < 60 → A' x f = A x f) (h : ARW S T P A) : ARW S' T' P' A' := by
  obtain ⟨h1, h2, h3, h4⟩ := h
  refine ⟨by rw [hS 0 (by omega) (by omega)]; exact h1, fun x a b => ?_, fun x a b k c d => ?_, fun x f a b c d e => ?_⟩
  · rw [hS x a (by omega), hS (x + 1) (by omega) (by omega)]
    exact h2 x a b
  · rw [hS x a (by omega)] at c
    rw [hS (x + 1) (by omega) (by omega)] at d
    have r := h2 x a b
    obtain ⟨q1, q2, q3, q4, q5⟩ := h3 x a b k c d
    rw [hT k (by omega) (by omega), hP k (by omega) (by omega), hA x (T k) a b q1 q2]
    refine ⟨q1, q2, q3, q4, fun j e f => ?_⟩
    rw [hS x a (by omega)] at e
    rw [hT j (by omega) (by omega)]
    exact q5 j e f
  · rw [hA x f a b c d] at e
    obtain ⟨k, k1, k2, k3⟩ := h4 x f a b c d e
    have r := h2 x a b
    exact ⟨k, by rw [hS x a (by omega)]; exact k1, by rw [hS (x + 1) (by omega) (by omega)]; exact k2, by rw [hT k (by omega) (by omega)]; exact k3⟩
theorem vS_step {S : Int → Int} {w m : Int} : vS (updI S (w + 1) m) (w + 1) m = vS S w m := by
  funext x
  unfold vS updI
  by_cases a : x ≤ w
  · rw [if_pos a, if_pos (by omega), if_neg (by omega)]
  · rw [if_neg a]
    by_cases b : x = w + 1
    · rw [if_pos (by omega), if_pos b]
    · rw [if_neg (by omega)]
/-- one part more, to the arrow that stands last -/
theorem ARW_merge {S T P : Int → Int} {A A' : Int → Int → Int} {w m f p : Int} (hw : 0 ≤ w ∧ w < 60) (hm : S w < m) (hf : T (m - 1) = f) (hp : 0 < p) (hA : ∀ x g, 0 ≤ x → x < 60 → 0 ≤ g → g < 60 → A' x g = A x g + if w = x ∧ f = g then p else 0) (h : ARW (vS S w m) T P A) : ARW (vS S w m) T (updI P (m - 1) (P (m - 1) + p)) A' := by
  obtain ⟨h1, h2, h3, h4⟩ := h
  have vw : vS S w m w = S w := if_pos (Int.le_refl w)
  have vw1 : vS S w m (w + 1) = m := if_neg (by omega)
  have last := h3 w hw.1 hw.2 (m - 1) (by rw [vw]; omega) (by rw [vw1]; omega)
  refine ⟨h1, h2, fun x a b k c d => ?_, fun x g a b c d e => ?_⟩
  · obtain ⟨q1, q2, q3, q4, q5⟩ := h3 x a b k c d
    refine ⟨q1, q2, ?_, ?_, q5⟩
    · rw [hA x (T k) a b q1 q2]
      unfold updI
      by_cases e : k = m - 1
      · subst e
        have ex : w = x := by
          by_cases l : x < w
          · have := h2 x a b
            have l2 : ∀ n : Nat, ∀ y, 0 ≤ y → y + n ≤ w → vS S w m y ≤ vS S w m (y + n) := by
              intro n
              induction n with
              | zero => intro y _ _; simp
              | succ n ih =>
                intro y y0 y1
                have i1 := ih y y0 (by omega)
                have i2 := h2 (y + n) (by omega) (by omega)
                have e3 : y + ((n + 1 : Nat) : Int) = y + n + 1 := by omega
                rw [e3]
                omega
            have l3 := l2 (w - (x + 1)).toNat (x + 1) (by omega) (by omega)
            rw [show x + 1 + ((w - (x + 1)).toNat : Int) = w by omega, vw] at l3
            omega
          · by_cases l2 : x = w
            · exact l2.symm
            · have e1 : vS S w m x = m := if_neg (by omega)
              have e2 : vS S w m (x + 1) = m := if_neg (by omega)
              omega
        rw [if_pos rfl, if_pos ⟨ex, hf.symm⟩, q3]
      · rw [if_neg e, q3]
        rw [if_neg (fun cc => ?_)]
        · omega
        · obtain ⟨c1, c2⟩ := cc
          subst c1
          have := last.2.2.2.2 k c (by rw [vw1] at d; omega)
          omega
    · unfold updI
      split
      · rename_i e
        subst e
        omega
      · exact q4
  · rw [hA x g a b c d] at e
    by_cases cc : w = x ∧ f = g
    · obtain ⟨c1, c2⟩ := cc
      subst c1
      exact ⟨m - 1, by rw [vw]; omega, by rw [vw1]; omega, by omega⟩
    · rw [if_neg cc] at e
      exact h4 x g a b c d (by omega)
/-- a new arrow behind all others -/
theorem ARW_app {S T P : Int → Int} {A A' : Int → Int → Int} {w m f p : Int} (hw : 0 ≤ w ∧ w < 60) (hf : 0 ≤ f ∧ f < 60) (hm : S w ≤ m) (hm2 : m < 200) (hp : 0 < p) (ho : S w < m → T (m - 1) < f) (hA : ∀ x g, 0 ≤ x → x < 60 → 0 ≤ g → g < 60 → A' x g = A x g + if w = x ∧ f = g then p else 0) (h : ARW (vS S w m) T P A) : ARW (vS S w (m + 1)) (updI T m f) (updI P m p) A' := by
  obtain ⟨h1, h2, h3, h4⟩ := h
  have vw : vS S w m w = S w := if_pos (Int.le_refl w)
  have vw1 : vS S w m (w + 1) = m := if_neg (by omega)
  have ux : vS S w (m + 1) w = S w := if_pos (Int.le_refl w)
  have ux1 : vS S w (m + 1) (w + 1) = m + 1 := if_neg (by omega)
  have lo : ∀ x, x ≤ w → vS S w (m + 1) x = vS S w m x := fun x a => by unfold vS; rw [if_pos a, if_pos a]
  have hi : ∀ x, w < x → vS S w (m + 1) x = m + 1 ∧ vS S w m x = m := fun x a => by unfold vS; rw [if_neg (by omega), if_neg (by omega)]; exact ⟨rfl, rfl⟩
  have none : A w f = 0 := by
    by_cases z : A w f = 0
    · exact z
    · obtain ⟨k, k1, k2, k3⟩ := h4 w f hw.1 hw.2 hf.1 hf.2 z
      rw [vw] at k1
      rw [vw1] at k2
      have t := ho (by omega)
      by_cases e : k = m - 1
      · subst e; omega
      · have := (h3 w hw.1 hw.2 (m - 1) (by rw [vw]; omega) (by rw [vw1]; omega)).2.2.2.2 k (by rw [vw]; omega) (by omega)
        omega
  refine ⟨by rw [lo 0 hw.1]; exact h1, fun x a b => ?_, fun x a b k c d => ?_, fun x g a b c d e => ?_⟩
  · have r := h2 x a b
    by_cases l : x < w
    · rw [lo x (by omega), lo (x + 1) (by omega)]; exact r
    · by_cases l2 : x = w
      · subst l2
        rw [ux, ux1]
        rw [vw] at r
        omega
      · have r1 := hi x (by omega)
        have r2 := hi (x + 1) (by omega)
        have := h2 w hw.1 hw.2
        rw [vw] at this
        omega
  · by_cases l : x ≤ w
    · rw [lo x l] at c
      by_cases e : x = w ∧ k = m
      · obtain ⟨e1, e2⟩ := e
        subst e1; subst e2
        rw [show updI T k f k = f from if_pos rfl, show updI P k p k = p from if_pos rfl, hA x f a b hf.1 hf.2, none, if_pos ⟨rfl, rfl⟩]
        refine ⟨hf.1, hf.2, by omega, hp, fun j j0 j1 => ?_⟩
        rw [updI_ne (by omega)]
        rw [ux] at j0
        have t := ho (by omega)
        by_cases e : j = k - 1
        · subst e; omega
        · have := (h3 x hw.1 hw.2 (k - 1) (by rw [vw]; omega) (by rw [vw1]; omega)).2.2.2.2 j (by rw [vw]; omega) (by omega)
          omega
      · have d2 : k < vS S w m (x + 1) := by
          by_cases l2 : x = w
          · subst l2
            rw [ux1] at d
            rw [vw1]
            have : k ≠ m := fun z => e ⟨rfl, z⟩
            omega
          · rw [lo (x + 1) (by omega)] at d
            exact d
        have top : vS S w m (x + 1) ≤ m := by
          by_cases l2 : x = w
          · subst l2; omega
          · have l2 : ∀ n : Nat, ∀ y, 0 ≤ y → y + n ≤ w → vS S w m y ≤ vS S w m (y + n) := by
              intro n
              induction n with
              | zero => intro y _ _; simp
              | succ n ih =>
                intro y y0 y1
                have i1 := ih y y0 (by omega)
                have i2 := h2 (y + n) (by omega) (by omega)
                have e3 : y + ((n + 1 : Nat) : Int) = y + n + 1 := by omega
                rw [e3]
                omega
            have l3 := l2 (w - (x + 1)).toNat (x + 1) (by omega) (by omega)
            rw [show x + 1 + ((w - (x + 1)).toNat : Int) = w by omega, vw] at l3
            omega
        obtain ⟨q1, q2, q3, q4, q5⟩ := h3 x a b k c d2
        rw [updI_ne (show k ≠ m by omega), updI_ne (show k ≠ m by omega), hA x (T k) a b q1 q2]
        refine ⟨q1, q2, ?_, q4, fun j j0 j1 => ?_⟩
        · rw [if_neg (fun cc => ?_)]
          · omega
          · obtain ⟨c1, c2⟩ := cc
            subst c1
            rw [← c2, none] at q3
            omega
        · rw [lo x l] at j0
          rw [updI_ne (by omega)]
          exact q5 j j0 j1
    · have r1 := hi x (by omega)
      have r2 := hi (x + 1) (by omega)
      omega
  · rw [hA x g a b c d] at e
    by_cases cc : w = x ∧ f = g
    · obtain ⟨c1, c2⟩ := cc
      subst c1
      exact ⟨m, by rw [ux]; omega, by rw [ux1]; omega, by rw [← c2]; exact if_pos rfl⟩
    · rw [if_neg cc] at e
      obtain ⟨k, k1, k2, k3⟩ := h4 x g a b c d (by omega)
      have xl : x ≤ w := by
        by_cases l : x ≤ w
        · exact l
        · have r1 := hi x (by omega)
          have r2 := hi (x + 1) (by omega)
          omega
      have km : k < m := by
        by_cases l2 : x = w
        · subst l2; omega
        · have l2 : ∀ n : Nat, ∀ y, 0 ≤ y → y + n ≤ w → vS S w m y ≤ vS S w m (y + n) := by
            intro n
            induction n with
            | zero => intro y _ _; simp
            | succ n ih =>
              intro y y0 y1
              have i1 := ih y y0 (by omega)
              have i2 := h2 (y + n) (by omega) (by omega)
              have e3 : y + ((n + 1 : Nat) : Int) = y + n + 1 := by omega
              rw [e3]
              omega
          have l3 := l2 (w - (x + 1)).toNat (x + 1) (by omega) (by omega)
          rw [show x + 1 + ((w - (x + 1)).toNat : Int) = w by omega, vw] at l3
          omega
      refine ⟨k, by rw [lo x xl]; exact k1, ?_, by rw [updI_ne (by omega)]; exact k3⟩
      by_cases l2 : x = w
      · subst l2; rw [ux1]; omega
      · rw [lo (x + 1) (by omega)]; exact k2
theorem ARW_nil {T P : Int → Int} {S : Int → Int} (h : S 0 = 0) : ARW (vS S 0 0) T P (fun _ _ => 0) := by
  have e : ∀ x, 0 ≤ x → vS S 0 0 x = 0 := fun x a => by
    unfold vS
    split
    · rename_i b
      have : x = 0 := by omega
      subst this
      exact h
    · rfl
  refine ⟨e 0 (by omega), fun x a b => ?_, fun x a b k c d => ?_, fun x f a b c d g => absurd rfl g⟩
  · rw [e x a, e (x + 1) (by omega)]; omega
  · rw [e x a] at c
    rw [e (x + 1) (by omega)] at d
    omega
