/-! tokens: one and the same on both sides; the words by number and by code (gen/mod_key.py) -/
theorem WCf_k {B : Int → Int} {k : Nat} (h : k < 8) : WCf B (k + 1) = 27 * WCf B k + B k - 96 := if_pos h
theorem WCf_big {B : Int → Int} {k : Nat} (h : 8 ≤ k) : WCf B (k + 1) = -1 := if_neg (by omega)
theorem WCf_nn {B : Int → Int} : ∀ n : Nat, n ≤ 8 → (∀ k : Int, 0 ≤ k → k < n → ltr (B k)) → 0 ≤ WCf B n ∧ (0 < n → 1 ≤ WCf B n)
  | 0, _, _ => ⟨Int.le_refl 0, fun h => absurd h (by omega)⟩
  | n + 1, h, hl => by
    have ih := (WCf_nn n (by omega) (fun k a b => hl k a (by omega))).1
    have l := hl n (by omega) (by omega)
    rw [WCf_k (by omega)]
    exact ⟨by omega, fun _ => by omega⟩
theorem WCf_inj {B B' : Int → Int} : ∀ n m : Nat, n ≤ 8 → m ≤ 8 → (∀ k : Int, 0 ≤ k → k < n → ltr (B k)) → (∀ k : Int, 0 ≤ k → k < m → ltr (B' k)) → WCf B n = WCf B' m → n = m ∧ ∀ k : Int, 0 ≤ k → k < n → B k = B' k
  | 0, 0, _, _, _, _, _ => ⟨rfl, fun k a b => by omega⟩
  | 0, m + 1, _, h2, _, l2, e => by
    have := (WCf_nn (m + 1) h2 l2).2 (by omega)
    have z : WCf B 0 = 0 := rfl
    omega
  | n + 1, 0, h1, _, l1, _, e => by
    have := (WCf_nn (n + 1) h1 l1).2 (by omega)
    have z : WCf B' 0 = 0 := rfl
    omega
  | n + 1, m + 1, h1, h2, l1, l2, e => by
    rw [WCf_k (by omega), WCf_k (by omega)] at e
    have a := l1 n (by omega) (by omega)
    have b := l2 m (by omega) (by omega)
    obtain ⟨q1, q2⟩ := WCf_inj n m (by omega) (by omega) (fun k x y => l1 k x (by omega)) (fun k x y => l2 k x (by omega)) (by omega)
    subst q1
    refine ⟨rfl, fun k x y => ?_⟩
    by_cases c : k = n
    · rw [c]; omega
    · exact q2 k x (by omega)
theorem WCf_congr {B B' : Int → Int} : ∀ n : Nat, (∀ k : Int, 0 ≤ k → k < n → B k = B' k) → WCf B n = WCf B' n
  | 0, _ => rfl
  | n + 1, h => by
    unfold WCf
    rw [WCf_congr n (fun k a b => h k a (by omega)), h n (by omega) (by omega)]
/-- the code of the word that ends ahead of i -/
def KC (i : Int) : Int := WCf (fun k => gCh (wbn i.toNat + k)) (i - wbn i.toNat).toNat
theorem KC_tab : ∀ i : Fin 135, gCh (i.val : Int) = 32 → (∀ j : Fin 135, gCh (j.val : Int) = 32 → (KC i.val = KC j.val → i = j) ∧ (wcn i.val = wcn j.val → i = j)) ∧ 1 ≤ KC i.val ∧ (i.val : Int) - wbn i.val ≤ 8 ∧ 1 ≤ (i.val : Int) - wbn i.val ∧ wcn i.val ≤ 25 ∧ ∀ k : Fin 8, (k.val : Int) < (i.val : Int) - wbn i.val → ltr (gCh (wbn i.val + k.val)) := by decide +kernel
theorem WAT_code {B : Int → Int} {n i : Int} (h : WAT B n i) : WCf B n.toNat = KC i := by
  unfold KC
  rw [h.2.1]
  exact WCf_congr _ fun k a b => h.2.2 k a (by omega)
theorem WAT_one {B : Int → Int} {n i j : Int} (i0 : 0 ≤ i) (i1 : i < 135) (j0 : 0 ≤ j) (j1 : j < 135) (hi : WAT B n i) (hj : WAT B n j) : i = j := by
  have a := KC_tab ⟨i.toNat, by omega⟩ (by show gCh (i.toNat : Int) = 32; rw [Int.toNat_of_nonneg i0]; exact hi.1)
  have b := (a.1 ⟨j.toNat, by omega⟩ (by show gCh (j.toNat : Int) = 32; rw [Int.toNat_of_nonneg j0]; exact hj.1)).1 (by
    show KC (i.toNat : Int) = KC (j.toNat : Int)
    rw [Int.toNat_of_nonneg i0, Int.toNat_of_nonneg j0, ← WAT_code hi, ← WAT_code hj])
  have c : i.toNat = j.toNat := congrArg Fin.val b
  omega
theorem KWD_one {B : Int → Int} {n v w : Int} (h : KWD B n v) (k : KWD B n w) : v = w := by
  rcases h with ⟨h1, h2⟩ | ⟨i, i0, i1, i2, i3⟩
  · rcases k with ⟨k1, k2⟩ | ⟨j, j0, j1, j2, j3⟩
    · omega
    · exact absurd j2 (h2 j j0 j1)
  · rcases k with ⟨k1, k2⟩ | ⟨j, j0, j1, j2, j3⟩
    · exact absurd i2 (k2 i i0 i1)
    · rw [i3, j3, WAT_one i0 i1 j0 j1 i2 j2]
/-- a word's number and its code -/
theorem KWD_code {B : Int → Int} {n v i : Int} (i0 : 0 ≤ i) (i1 : i < 135) (hi : gCh i = 32) (hn : 0 ≤ n) (hl : ∀ k, 0 ≤ k → k < n → ltr (B k)) (h : KWD B n v) : WCf B n.toNat = KC i ↔ v = wcn i.toNat := by
  have a := KC_tab ⟨i.toNat, by omega⟩ (by show gCh (i.toNat : Int) = 32; rw [Int.toNat_of_nonneg i0]; exact hi)
  constructor
  · intro e
    have n8 : n ≤ 8 := by
      by_cases c : n ≤ 8
      · exact c
      · exfalso
        have z : WCf B n.toNat = -1 := by rw [show n.toNat = (n.toNat - 1) + 1 by omega]; exact WCf_big (by omega)
        have z1 : 1 ≤ KC (i.toNat : Int) := a.2.1
        rw [Int.toNat_of_nonneg i0] at z1
        omega
    have a3 : (i.toNat : Int) - wbn i.toNat ≤ 8 := a.2.2.1
    have a4 : 1 ≤ (i.toNat : Int) - wbn i.toNat := a.2.2.2.1
    obtain ⟨q1, q2⟩ := WCf_inj n.toNat (i - wbn i.toNat).toNat (by omega) (by omega) (fun k x y => hl k x (by omega)) (fun k x y => by
      have l := a.2.2.2.2.2 ⟨k.toNat, by omega⟩ (by show (k.toNat : Int) < (i.toNat : Int) - wbn i.toNat; omega)
      have l2 : ltr (gCh (wbn i.toNat + (k.toNat : Int))) := l
      rw [Int.toNat_of_nonneg x] at l2
      exact l2) e
    have w : WAT B n i := ⟨hi, by omega, fun k x y => q2 k x (by omega)⟩
    exact KWD_one h (Or.inr ⟨i, i0, i1, w, rfl⟩)
  · intro e
    rcases h with ⟨h1, h2⟩ | ⟨j, j0, j1, j2, j3⟩
    · have := (wcn_in i.toNat).1
      omega
    · have b := (a.1 ⟨j.toNat, by omega⟩ (by show gCh (j.toNat : Int) = 32; rw [Int.toNat_of_nonneg j0]; exact j2.1)).2 (by show wcn i.toNat = wcn j.toNat; omega)
      have c : i.toNat = j.toNat := congrArg Fin.val b
      rw [WAT_code j2, show j = i by omega]
theorem RUN_one {T : Int → Int} {L p q k v q' k' v' : Int} (hp : pln (T p)) (hL : p < L) (h : RUN T L p q k v) (h' : RUN T L p q' k' v') : q = q' ∧ k = k' ∧ v = v' := by
  obtain ⟨⟨a1, a2, a3, a4⟩, b⟩ := h
  obtain ⟨⟨c1, c2, c3, c4⟩, d⟩ := h'
  have hq : q = q' := by
    by_cases x : q < q'
    · exact absurd (c3 q a1 x) (a4 (by omega))
    · by_cases y : q' < q
      · exact absurd (a3 q' c1 y) (c4 (by omega))
      · omega
  subst hq
  have ne : p < q := by
    by_cases x : q = p
    · exact absurd (by rw [x]; exact hp) (a4 (by omega))
    · omega
  refine ⟨rfl, ?_⟩
  rcases b with ⟨b1, b2, b3⟩ | ⟨b1, b2, b3, b4, b5⟩ | ⟨b1, b2, b3, b4⟩ <;> rcases d with ⟨d1, d2, d3⟩ | ⟨d1, d2, d3, d4, d5⟩ | ⟨d1, d2, d3, d4⟩
  · exact ⟨by omega, KWD_one b3 d3⟩
  · have x := b1 p (Int.le_refl p) ne
    have y := d1 p (Int.le_refl p) ne
    omega
  · obtain ⟨i, i0, i1, i2⟩ := d1
    have x := b1 i i0 i1
    omega
  · have x := d1 p (Int.le_refl p) ne
    have y := b1 p (Int.le_refl p) ne
    omega
  · exact ⟨by omega, by rw [b5, d5]⟩
  · rcases d2 with ⟨i, i0, i1, i2⟩ | d2
    · have x := b1 i i0 i1
      omega
    · omega
  · obtain ⟨i, i0, i1, i2⟩ := b1
    have x := d1 i i0 i1
    omega
  · rcases b2 with ⟨i, i0, i1, i2⟩ | b2
    · have x := d1 i i0 i1
      omega
    · omega
  · exact ⟨by omega, by omega⟩
theorem TOKN_one {T : Int → Int} {L E p a q k v a' q' k' v' : Int} (hE : E ≤ L) (h : TOKN T L E p a q k v) (h' : TOKN T L E p a' q' k' v') : a = a' ∧ q = q' ∧ k = k' ∧ v = v' := by
  rcases h with ⟨h1, h2, h3, h4, h5⟩ | ⟨h1, h2, h3, h4, h5⟩ <;> rcases h' with ⟨g1, g2, g3, g4, g5⟩ | ⟨g1, g2, g3, g4, g5⟩
  · omega
  · exact absurd (h1 a' g2 g3) g4
  · exact absurd (g1 a h2 h3) h4
  · have e : a = a' := by
      by_cases x : a < a'
      · exact absurd (g1 a h2 x) h4
      · by_cases y : a' < a
        · exact absurd (h1 a' g2 y) g4
        · omega
    subst e
    refine ⟨rfl, ?_⟩
    rcases h5 with ⟨x1, x2⟩ | ⟨x1, x2, x3, x4⟩ <;> rcases g5 with ⟨y1, y2⟩ | ⟨y1, y2, y3, y4⟩
    · exact RUN_one x1 (by omega) x2 y2
    · exact absurd x1 y1
    · exact absurd y1 x1
    · refine ⟨by omega, ?_, by omega⟩
      rcases x4 with x4 | x4 <;> rcases y4 with y4 | y4
      · omega
      · exact absurd x4.1 y4.1
      · exact absurd y4.1 x4.1
      · omega
