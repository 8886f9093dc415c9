/-! who controls whom: the search from one party, the pure side -/
theorem cmpB {z f : Int} : ¬ gCmp (gB64 (fun a b => a &&& b) (gS64 (fun a b => a >>> b) z f) 1) 0 = 0 ↔ bitI z f := not_congr gCmp_0
/-- distinct places' sum is no more than the sum over all that hold them -/
theorem dsum_le {g : Int → Int} : ∀ (n : Nat) {Q : Int → Int} {T : Int → Bool}, (∀ j : Int, 0 ≤ j → j < n → 0 ≤ Q j ∧ Q j < 60) → (∀ i j : Int, 0 ≤ i → i < j → j < n → Q i ≠ Q j) → (∀ c, 0 ≤ c → c < 60 → 0 ≤ g c) → (∀ j : Int, 0 ≤ j → j < n → T (Q j) = true) → sumI (fun j => g (Q j)) n ≤ sumI (fun c => if T c = true then g c else 0) 60
  | 0, Q, T, _, _, hg, _ => by
    show 0 ≤ _
    refine sumI_nonneg fun c a b => ?_
    split
    · exact hg c a b
    · exact Int.le_refl 0
  | n + 1, Q, T, h1, h2, hg, h3 => by
    have hn := h1 n (by omega) (by omega)
    have ih := dsum_le (g := g) n (Q := Q) (T := fun c => T c && !decide (c = Q n)) (fun j a b => h1 j a (by omega)) (fun i j a b c => h2 i j a b (by omega)) hg (fun j a b => by
      have e := h2 j n a b (by omega)
      show (T (Q j) && !decide (Q j = Q n)) = true
      rw [h3 j a (by omega), decide_eq_false e]
      rfl)
    have e1 : sumI (fun c => if T c = true then g c else 0) 60 = sumI (fun c => if (T c && !decide (c = Q n)) = true then g c else 0) 60 + sumI (fun c => if c = Q n then g (Q n) else 0) 60 := by
      rw [← sumI_add]
      refine sumI_congr fun c a b => ?_
      by_cases e : c = Q n
      · subst e
        have t := h3 n (by omega) (by omega)
        simp [t]
      · simp [e]
    have e2 : sumI (fun c => if c = Q n then g (Q n) else 0) 60 = g (Q n) := by
      rw [sumI_one (k := Q n) hn.1 hn.2 (fun i _ _ c => if_neg c), if_pos rfl]
    show sumI (fun j => g (Q j)) n + g (Q n) ≤ _
    rw [e1, e2]
    omega
/-- the sum over all that stand in the row is no more than the row's -/
theorem dsum_ge {g : Int → Int} {n : Nat} {Q : Int → Int} {T : Int → Bool} (h1 : ∀ j : Int, 0 ≤ j → j < n → 0 ≤ Q j ∧ Q j < 60) (hg : ∀ c, 0 ≤ c → c < 60 → 0 ≤ g c) (h3 : ∀ c, 0 ≤ c → c < 60 → T c = true → ∃ j : Int, 0 ≤ j ∧ j < n ∧ Q j = c) : sumI (fun c => if T c = true then g c else 0) 60 ≤ sumI (fun j => g (Q j)) n := by
  have e : sumI (fun j => g (Q j)) n = sumI (fun j => sumI (fun c => if Q j = c then g c else 0) 60) n := sumI_congr fun j a b => by
    have r := h1 j a b
    rw [sumI_one (k := Q j) r.1 r.2 (fun i _ _ c => if_neg (Ne.symm c)), if_pos rfl]
  rw [e, sumI_swap]
  refine sumI_le fun c a b => ?_
  have nn : ∀ j : Int, 0 ≤ j → j < n → 0 ≤ (if Q j = c then g c else 0) := fun j _ _ => by
    split
    · exact hg c a b
    · exact Int.le_refl 0
  by_cases t : T c = true
  · rw [if_pos t]
    obtain ⟨j, j0, j1, j2⟩ := h3 c a b t
    have r := sumI_ge (f := fun j => if Q j = c then g c else 0) j0 j1 nn
    simp only [if_pos j2] at r
    exact r
  · rw [if_neg t]
    exact sumI_nonneg nn
theorem sumI_shift {f : Int → Int} : ∀ {n : Nat}, sumI f (n + 1) = f 0 + sumI (fun j => f (j + 1)) n
  | 0 => by show (0 : Int) + f ((0 : Nat) : Int) = f 0 + 0; simp
  | n + 1 => by
    show sumI f (n + 1) + f ((n + 1 : Nat) : Int) = f 0 + (sumI (fun j => f (j + 1)) n + f ((n : Int) + 1))
    rw [sumI_shift (n := n), show ((n + 1 : Nat) : Int) = (n : Int) + 1 by omega]
    omega
/-- fewer than sixty stand in a row of distinct ones that lacks one -/
theorem row_room {w f : Int} {Q : Int → Int} (h0 : 0 ≤ w) (h1 : ∀ j, 0 ≤ j → j < w → 0 ≤ Q j ∧ Q j < 60) (h2 : ∀ i j, 0 ≤ i → i < j → j < w → Q i ≠ Q j) (hf : 0 ≤ f ∧ f < 60) (h3 : ∀ j, 0 ≤ j → j < w → Q j ≠ f) : w ≤ 59 := by
  have r := dsum_le (g := fun _ => 1) w.toNat (Q := Q) (T := fun c => !decide (c = f)) (fun j a b => h1 j a (by omega)) (fun i j a b c => h2 i j a b (by omega)) (fun _ _ _ => by omega) (fun j a b => by
    show (!decide (Q j = f)) = true
    rw [decide_eq_false (h3 j a (by omega))]; rfl)
  rw [sumI_const] at r
  have e : sumI (fun c => if (!decide (c = f)) = true then (1 : Int) else 0) 60 + sumI (fun c => if c = f then (1 : Int) else 0) 60 = sumI (fun _ => 1) 60 := by
    rw [← sumI_add]
    refine sumI_congr fun c _ _ => ?_
    by_cases e : c = f
    · simp [e]
    · simp [e]
  rw [sumI_const, sumI_one (k := f) hf.1 hf.2 (fun i _ _ c => if_neg c), if_pos rfl] at e
  omega
def CB (A : Int → Int → Int) (x z w k : Int) (G Q : Int → Int) : Prop := 1 ≤ w ∧ w ≤ 60 ∧ 0 ≤ k ∧ k ≤ w ∧ Q 0 = x ∧ (∀ j, 0 ≤ j → j < w → 0 ≤ Q j ∧ Q j < 60) ∧ (∀ i j, 0 ≤ i → i < j → j < w → Q i ≠ Q j) ∧
  (∀ f, 0 ≤ f → f < 60 → (bitI z f ↔ ∃ j, 1 ≤ j ∧ j < w ∧ Q j = f)) ∧ (∀ f, 0 ≤ f → f < 60 → bitI z f → Ctl A x f) ∧ ∀ f, 0 ≤ f → f < 60 → f ≠ x → ¬ bitI z f → G f = sumI (fun j => A (Q j) f) k.toNat ∧ G f ≤ 5000
def CBa (S T : Int → Int) (A : Int → Int → Int) (x z w k a : Int) (G Q : Int → Int) : Prop := 1 ≤ w ∧ w ≤ 60 ∧ 0 ≤ k ∧ k < w ∧ Q 0 = x ∧ (∀ j, 0 ≤ j → j < w → 0 ≤ Q j ∧ Q j < 60) ∧ (∀ i j, 0 ≤ i → i < j → j < w → Q i ≠ Q j) ∧
  (∀ f, 0 ≤ f → f < 60 → (bitI z f ↔ ∃ j, 1 ≤ j ∧ j < w ∧ Q j = f)) ∧ (∀ f, 0 ≤ f → f < 60 → bitI z f → Ctl A x f) ∧ S (Q k) ≤ a ∧ a ≤ S (Q k + 1) ∧
  ∀ f, 0 ≤ f → f < 60 → f ≠ x → ¬ bitI z f → G f ≤ 5000 ∧ ((∀ b, S (Q k) ≤ b → b < a → T b ≠ f) → G f = sumI (fun j => A (Q j) f) k.toNat) ∧ ∀ b, S (Q k) ≤ b → b < a → T b = f → G f = sumI (fun j => A (Q j) f) k.toNat + A (Q k) f
theorem CB.start {A : Int → Int → Int} {x : Int} {G Q : Int → Int} (hx : 0 ≤ x ∧ x < 60) (hG : ∀ f, 0 ≤ f → f < 60 → G f = 0) : CB A x 0 1 0 G (updI Q 0 x) := by
  refine ⟨by omega, by omega, by omega, by omega, updI_eq, fun j a b => ?_, fun i j a b c => by omega, fun f a b => ⟨fun h => absurd h (bitI_0 a (by omega)), fun ⟨j, j0, j1, _⟩ => by omega⟩, fun f a b h => absurd h (bitI_0 a (by omega)), fun f a b _ _ => ⟨?_, ?_⟩⟩
  · have : j = 0 := by omega
    subst this
    rw [updI_eq]
    exact hx
  · rw [hG f a b]; rfl
  · rw [hG f a b]; omega
theorem CB.into {S T P : Int → Int} {A : Int → Int → Int} {x z w k : Int} {G Q : Int → Int} (hA : ARW S T P A) (hk : k < w) (h : CB A x z w k G Q) : CBa S T A x z w k (S (Q k)) G Q := by
  obtain ⟨a1, a2, a3, a4, a5, a6, a7, a8, a9, a10⟩ := h
  have q := a6 k a3 hk
  have r := hA.2.1 (Q k) q.1 q.2
  exact ⟨a1, a2, a3, hk, a5, a6, a7, a8, a9, Int.le_refl _, r.2.1, fun f b c d e => ⟨(a10 f b c d e).2, fun _ => (a10 f b c d e).1, fun b b0 b1 => by omega⟩⟩
theorem CBa.skip {S T P : Int → Int} {A : Int → Int → Int} {x z w k a : Int} {G Q : Int → Int} (hA : ARW S T P A) (ha : a < S (Q k + 1)) (h : CBa S T A x z w k a G Q) (ht : T a = x ∨ bitI z (T a)) : CBa S T A x z w k (a + 1) G Q := by
  obtain ⟨a1, a2, a3, a4, a5, a6, a7, a8, a9, a10, a11, a12⟩ := h
  have q := a6 k a3 a4
  refine ⟨a1, a2, a3, a4, a5, a6, a7, a8, a9, by omega, by omega, fun f b c d e => ?_⟩
  obtain ⟨u1, u2, u3⟩ := a12 f b c d e
  have ne : T a ≠ f := fun h => by
    subst h
    rcases ht with h | h
    · exact d h
    · exact e h
  refine ⟨u1, fun hb => u2 fun b b0 b1 => hb b b0 (by omega), fun b b0 b1 b2 => ?_⟩
  by_cases e2 : b = a
  · subst e2
    exact absurd b2 ne
  · exact u3 b b0 (by omega) b2
theorem CBa.arrow {S T P : Int → Int} {A : Int → Int → Int} {x z w k a : Int} {G Q : Int → Int} (hA : ARW S T P A) (ha : a < S (Q k + 1)) (h : CBa S T A x z w k a G Q) : (0 ≤ Q k ∧ Q k < 60) ∧ 0 ≤ a ∧ a < 200 ∧ 0 ≤ T a ∧ T a < 60 ∧ P a = A (Q k) (T a) ∧ 0 < P a := by
  obtain ⟨a1, a2, a3, a4, a5, a6, a7, a8, a9, a10, a11, a12⟩ := h
  have q := a6 k a3 a4
  have r := hA.2.1 (Q k) q.1 q.2
  have s := hA.2.2.1 (Q k) q.1 q.2 a a10 ha
  exact ⟨q, by omega, by omega, s.1, s.2.1, s.2.2.1, s.2.2.2.1⟩
/-- what the reached one has by now -/
theorem CBa.val {S T P : Int → Int} {A : Int → Int → Int} {x z w k a : Int} {G Q : Int → Int} (hA : ARW S T P A) (ha : a < S (Q k + 1)) (h : CBa S T A x z w k a G Q) (hx : T a ≠ x) (hz : ¬ bitI z (T a)) : G (T a) ≤ 5000 ∧ G (T a) + P a = sumI (fun j => A (Q j) (T a)) k.toNat + A (Q k) (T a) := by
  have hr := h.arrow hA ha
  obtain ⟨a1, a2, a3, a4, a5, a6, a7, a8, a9, a10, a11, a12⟩ := h
  have q := a6 k a3 a4
  obtain ⟨u1, u2, u3⟩ := a12 (T a) hr.2.2.2.1 hr.2.2.2.2.1 hx hz
  have s := hA.2.2.1 (Q k) q.1 q.2 a a10 ha
  have e := u2 fun b b0 b1 => by have := s.2.2.2.2 b b0 b1; omega
  omega
theorem CBa.add {S T P : Int → Int} {A : Int → Int → Int} {x z w k a : Int} {G Q : Int → Int} (hA : ARW S T P A) (ha : a < S (Q k + 1)) (h : CBa S T A x z w k a G Q) (hx : T a ≠ x) (hz : ¬ bitI z (T a)) (hs : G (T a) + P a ≤ 5000) : CBa S T A x z w k (a + 1) (updI G (T a) (G (T a) + P a)) Q := by
  have hv := h.val hA ha hx hz
  have hr := h.arrow hA ha
  obtain ⟨a1, a2, a3, a4, a5, a6, a7, a8, a9, a10, a11, a12⟩ := h
  have q := a6 k a3 a4
  have s := hA.2.2.1 (Q k) q.1 q.2 a a10 ha
  refine ⟨a1, a2, a3, a4, a5, a6, a7, a8, a9, by omega, by omega, fun f b c d e => ?_⟩
  obtain ⟨u1, u2, u3⟩ := a12 f b c d e
  by_cases ef : f = T a
  · subst ef
    rw [updI_eq]
    refine ⟨hs, fun hb => absurd rfl (hb a a10 (by omega)), fun b b0 b1 b2 => hv.2⟩
  · rw [updI_ne ef]
    refine ⟨u1, fun hb => u2 fun b b0 b1 => hb b b0 (by omega), fun b b0 b1 b2 => ?_⟩
    by_cases e2 : b = a
    · subst e2
      exact absurd b2.symm ef
    · exact u3 b b0 (by omega) b2
theorem CBa.sound {S T P : Int → Int} {A : Int → Int → Int} {x z w k a : Int} {G Q : Int → Int} (hA : ARW S T P A) (hp : ∀ c f, 0 ≤ A c f) (hX : 0 ≤ x ∧ x < 60) (ha : a < S (Q k + 1)) (h : CBa S T A x z w k a G Q) (hx : T a ≠ x) (hz : ¬ bitI z (T a)) (hs : 5000 < G (T a) + P a) : Ctl A x (T a) := by
  have hv := h.val hA ha hx hz
  have hr := h.arrow hA ha
  obtain ⟨a1, a2, a3, a4, a5, a6, a7, a8, a9, a10, a11, a12⟩ := h
  refine ⟨hr.2.2.2.1, hr.2.2.2.2.1, hx, fun U hU => hU (T a) hr.2.2.2.1 hr.2.2.2.2.1 hx ?_⟩
  have e : sumI (fun j => A (Q j) (T a)) k.toNat + A (Q k) (T a) = sumI (fun j => A (Q j) (T a)) (k.toNat + 1) := by
    show _ = sumI (fun j => A (Q j) (T a)) k.toNat + A (Q (k.toNat : Int)) (T a)
    rw [Int.toNat_of_nonneg a3]
  rw [e, sumI_shift, a5] at hv
  have dd := dsum_le (g := fun c => A c (T a)) k.toNat (Q := fun j => Q (j + 1)) (T := U) (fun j b c => a6 (j + 1) (by omega) (by omega)) (fun i j b c d => a7 (i + 1) (j + 1) (by omega) (by omega) (by omega)) (fun c _ _ => hp c _) (fun j b c => by
    have g := a6 (j + 1) (by omega) (by omega)
    have bz := (a8 (Q (j + 1)) g.1 g.2).mpr ⟨j + 1, by omega, by omega, rfl⟩
    exact (a9 (Q (j + 1)) g.1 g.2 bz).2.2.2 U hU)
  omega
theorem CBa.room {S T P : Int → Int} {A : Int → Int → Int} {x z w k a : Int} {G Q : Int → Int} (hA : ARW S T P A) (ha : a < S (Q k + 1)) (h : CBa S T A x z w k a G Q) (hx : T a ≠ x) (hz : ¬ bitI z (T a)) : w ≤ 59 := by
  have hr := h.arrow hA ha
  obtain ⟨a1, a2, a3, a4, a5, a6, a7, a8, a9, a10, a11, a12⟩ := h
  refine row_room (f := T a) (Q := Q) (by omega) a6 a7 ⟨hr.2.2.2.1, hr.2.2.2.2.1⟩ fun j b c e => ?_
  by_cases j0 : j = 0
  · subst j0
    exact hx (e.symm.trans a5)
  · exact hz ((a8 _ hr.2.2.2.1 hr.2.2.2.2.1).mpr ⟨j, by omega, c, e⟩)
theorem CBa.find {S T P : Int → Int} {A : Int → Int → Int} {x z w k a : Int} {G Q : Int → Int} (hA : ARW S T P A) (hp : ∀ c f, 0 ≤ A c f) (hX : 0 ≤ x ∧ x < 60) (ha : a < S (Q k + 1)) (h : CBa S T A x z w k a G Q) (hx : T a ≠ x) (hz : ¬ bitI z (T a)) (hs : 5000 < G (T a) + P a) : CBa S T A x (gB64 (fun a b => a ||| b) z (gS64 (fun a b => a <<< b) 1 (T a))) (w + 1) k (a + 1) (updI G (T a) (G (T a) + P a)) (updI Q w (T a)) := by
  have hc := h.sound hA hp hX ha hx hz hs
  have hw := h.room hA ha hx hz
  have hr := h.arrow hA ha
  obtain ⟨a1, a2, a3, a4, a5, a6, a7, a8, a9, a10, a11, a12⟩ := h
  have t0 := hr.2.2.2.1
  have t1 := hr.2.2.2.2.1
  have qk : updI Q w (T a) k = Q k := updI_ne (by omega)
  have bs : ∀ f, 0 ≤ f → f < 60 → (bitI (gB64 (fun a b => a ||| b) z (gS64 (fun a b => a <<< b) 1 (T a))) f ↔ bitI z f ∨ f = T a) := fun f b c => bitI_set t0 (by omega) b (by omega)
  have sm : ∀ f, sumI (fun j => A (updI Q w (T a) j) f) k.toNat = sumI (fun j => A (Q j) f) k.toNat := fun f => sumI_congr fun j b c => by rw [updI_ne (by omega)]
  refine ⟨by omega, by omega, a3, by omega, by rw [updI_ne (by omega)]; exact a5, fun j b c => ?_, fun i j b c d => ?_, fun f b c => ?_, fun f b c d => ?_, by rw [qk]; omega, by rw [qk]; omega, fun f b c d e => ?_⟩
  · by_cases e : j = w
    · rw [e, updI_eq]; exact ⟨t0, t1⟩
    · rw [updI_ne e]; exact a6 j b (by omega)
  · rw [updI_ne (show i ≠ w by omega)]
    by_cases e : j = w
    · rw [e, updI_eq]
      intro e2
      by_cases i0 : i = 0
      · subst i0
        exact hx (e2.symm.trans a5)
      · exact hz ((a8 _ t0 t1).mpr ⟨i, by omega, by omega, e2⟩)
    · rw [updI_ne e]
      exact a7 i j b c (by omega)
  · rw [bs f b c, a8 f b c]
    constructor
    · rintro (⟨j, j0, j1, j2⟩ | e)
      · exact ⟨j, j0, by omega, by rw [updI_ne (by omega)]; exact j2⟩
      · exact ⟨w, by omega, by omega, by rw [updI_eq]; exact e.symm⟩
    · rintro ⟨j, j0, j1, j2⟩
      by_cases e : j = w
      · rw [e, updI_eq] at j2
        exact Or.inr j2.symm
      · rw [updI_ne e] at j2
        exact Or.inl ⟨j, j0, by omega, j2⟩
  · rcases (bs f b c).mp d with h | h
    · exact a9 f b c h
    · rw [h]; exact hc
  · have nz : ¬ bitI z f := fun h => e ((bs f b c).mpr (Or.inl h))
    have nf : f ≠ T a := fun h => e ((bs f b c).mpr (Or.inr h))
    obtain ⟨u1, u2, u3⟩ := a12 f b c d nz
    rw [updI_ne nf, qk, sm f]
    refine ⟨u1, fun hb => u2 fun b b0 b1 => hb b b0 (by omega), fun b b0 b1 b2 => ?_⟩
    by_cases e2 : b = a
    · subst e2
      exact absurd b2.symm nf
    · exact u3 b b0 (by omega) b2
theorem CBa.out {S T P : Int → Int} {A : Int → Int → Int} {x z w k a : Int} {G Q : Int → Int} (hA : ARW S T P A) (ha : ¬ a < S (Q k + 1)) (h : CBa S T A x z w k a G Q) : CB A x z w (k + 1) G Q := by
  obtain ⟨a1, a2, a3, a4, a5, a6, a7, a8, a9, a10, a11, a12⟩ := h
  have q := a6 k a3 a4
  refine ⟨a1, a2, by omega, by omega, a5, a6, a7, a8, a9, fun f b c d e => ?_⟩
  obtain ⟨u1, u2, u3⟩ := a12 f b c d e
  refine ⟨?_, u1⟩
  rw [sumI_s a3]
  by_cases z0 : A (Q k) f = 0
  · rw [z0, Int.add_zero]
    refine u2 fun b b0 b1 b2 => ?_
    have s := hA.2.2.1 (Q k) q.1 q.2 b b0 (by omega)
    rw [b2, z0] at s
    omega
  · obtain ⟨b, b0, b1, b2⟩ := hA.2.2.2 (Q k) f q.1 q.2 b c z0
    exact u3 b b0 (by omega) b2
theorem CB.fin {A : Int → Int → Int} {x z w k : Int} {G Q : Int → Int} (hp : ∀ c f, 0 ≤ A c f) (h : CB A x z w k G Q) (hk : ¬ k < w ∨ ¬ k < 60) : ∀ f, 0 ≤ f → f < 60 → (bitI z f ↔ Ctl A x f) := by
  obtain ⟨a1, a2, a3, a4, a5, a6, a7, a8, a9, a10⟩ := h
  have ek : k = w := by omega
  subst ek
  have nd : ∀ f, @decide (bitI z f) (Classical.propDecidable _) = true ↔ bitI z f := fun f => @decide_eq_true_iff _ (Classical.propDecidable _)
  intro f b c
  refine ⟨a9 f b c, fun hc => ?_⟩
  have cl : ctlC A x (fun f => @decide (bitI z f) (Classical.propDecidable _)) := by
    intro g g0 g1 g2 g3
    by_cases bz : bitI z g
    · exact (nd g).mpr bz
    · exfalso
      have r := a10 g g0 g1 g2 bz
      have dd := dsum_ge (g := fun c => A c g) (n := (k - 1).toNat) (Q := fun j => Q (j + 1)) (T := fun f => @decide (bitI z f) (Classical.propDecidable _)) (fun j b c => a6 (j + 1) (by omega) (by omega)) (fun c _ _ => hp c g) (fun c c0 c1 t => by
        obtain ⟨j, j0, j1, j2⟩ := (a8 c c0 c1).mp ((nd c).mp t)
        exact ⟨j - 1, by omega, by omega, by rw [show j - 1 + 1 = j by omega]; exact j2⟩)
      have e : sumI (fun j => A (Q j) g) k.toNat = A x g + sumI (fun j => A (Q (j + 1)) g) (k - 1).toNat := by
        rw [show k.toNat = (k - 1).toNat + 1 by omega, sumI_shift, a5]
      have g4 : 5000 < A x g + sumI (fun c => if @decide (bitI z c) (Classical.propDecidable _) = true then A c g else 0) 60 := g3
      omega
  exact (nd f).mp (hc.2.2.2 _ cl)
theorem ctl_iff {A : Int → Int → Int} {x f : Int} : ctl A x f = true ↔ Ctl A x f := @decide_eq_true_iff _ (Classical.propDecidable _)
theorem rul_iff {A : Int → Int → Int} {y : Int} : rul A y = true ↔ ∃ z, 0 ≤ z ∧ z < 60 ∧ Ctl A z y := @decide_eq_true_iff _ (Classical.propDecidable _)
