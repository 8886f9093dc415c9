/-! the class reads a law: the state of its reading, the draft in one place (gen/mod_ag.py) -/
abbrev isD (c : Nat) : Prop := c = 68 ∨ c = 75 ∨ c = 82 ∨ c = 89 ∨ c = 96 ∨ c = 103
theorem gUr_ne {σ : gH} {k q : Nat} {f : Int → Int} (h : q ≠ k) : gUr σ k f q = σ q := if_neg h
theorem gUr_own {σ : gH} {k : Nat} {f : Int → Int} : gUr σ k f k = f := if_pos rfl
theorem gUp_ne {σ : gH} {k q : Nat} {i v : Int} (h : q ≠ k) : gUp σ k i v q = σ q := if_neg h
/-- what the reading leaves as it was -/
def agf (c : Nat) (k : Nat) (i : Int) : Prop := k ≠ 66 ∧ k ≠ 67 ∧ (k < c ∨ c + 7 ≤ k) ∧ (k = 57 → i < 3 ∨ i = 4)
/-- the store σ has the state S of the reading, the draft at cell c (in S: at 68); all else is as in σ0 -/
def AG (c : Nat) (σ0 σ S : gH) : Prop := (∀ i, i ≠ 5 → σ 57 i = S 57 i) ∧ σ 57 5 = (c : Int) ∧ σ 66 = S 66 ∧ σ 67 = S 67 ∧ (∀ n, n < 7 → σ (c + n) = S (68 + n)) ∧ ∀ k i, agf c k i → σ k i = σ0 k i
def agk (k : Nat) (i : Int) : Bool := (k == 57 && !decide (i = 5)) || k == 66 || k == 67
theorem AG.rd {c : Nat} {σ0 σ S : gH} (h : AG c σ0 σ S) {k : Nat} {i : Int} (hk : agk k i = true) : σ k i = S k i := by
  unfold agk at hk
  rcases Bool.or_eq_true_iff.mp hk with hk | hk
  · rcases Bool.or_eq_true_iff.mp hk with hk | hk
    · have h1 := Bool.and_eq_true_iff.mp hk
      have e : k = 57 := eq_of_beq h1.1
      have n : i ≠ 5 := by
        intro e5
        rw [decide_eq_true e5] at h1
        exact absurd h1.2 (by decide)
      rw [e]; exact h.1 i n
    · have e : k = 66 := eq_of_beq hk
      rw [e, h.2.2.1]
  · have e : k = 67 := eq_of_beq hk
    rw [e, h.2.2.2.1]
theorem AG.dr {c : Nat} {σ0 σ S : gH} (h : AG c σ0 σ S) : σ 57 5 = (c : Int) := h.2.1
theorem AG.fr {c : Nat} {σ0 σ S : gH} (h : AG c σ0 σ S) {k : Nat} {i : Int} (hk : agf c k i) : σ k i = σ0 k i := h.2.2.2.2.2 k i hk
theorem AG.dd {c : Nat} {σ0 σ S : gH} (h : AG c σ0 σ S) (n : Nat) (hn : n < 7) : σ (c + n) = S (68 + n) := h.2.2.2.2.1 n hn
theorem AG.rw {c : Nat} {σ0 σ S : gH} (h : AG c σ0 σ S) : σ 67 = S 67 := h.2.2.2.1
/-- a row of the draft anew -/
theorem AG.dR {c : Nat} {σ0 σ S : gH} (hc : isD c) (h : AG c σ0 σ S) (n : Nat) (hn : n < 7) {k s : Nat} (hk : k = c + n) (hs : s = 68 + n) {f : Int → Int} : AG c σ0 (gUr σ k f) (gUr S s f) := by
  have h68 : 68 ≤ c := by rcases hc with h | h | h | h | h | h <;> omega
  subst hk hs
  refine ⟨fun i hi => ?_, ?_, ?_, ?_, fun m hm => ?_, fun q i hq => ?_⟩
  · rw [gUr_ne (by omega), gUr_ne (by omega)]; exact h.1 i hi
  · rw [gUr_ne (by omega)]; exact h.2.1
  · rw [gUr_ne (by omega), gUr_ne (by omega)]; exact h.2.2.1
  · rw [gUr_ne (by omega), gUr_ne (by omega)]; exact h.2.2.2.1
  · by_cases e : m = n
    · subst e; rw [gUr_own, gUr_own]
    · rw [gUr_ne (by omega), gUr_ne (by omega)]; exact h.dd m hm
  · have hq2 := hq.2.2.1
    rw [gUr_ne (by omega)]; exact h.fr hq
theorem AG.d {c : Nat} {σ0 σ S : gH} (hc : isD c) (h : AG c σ0 σ S) (n : Nat) (hn : n < 7) {k s : Nat} (hk : k = c + n) (hs : s = 68 + n) {i v : Int} : AG c σ0 (gUp σ k i v) (gUp S s i v) := by
  have e := h.dd n hn
  unfold gUp
  subst hk hs
  rw [e]
  exact AG.dR hc h n hn rfl rfl
theorem AG.u57 {c : Nat} {σ0 σ S : gH} (hc : isD c) (h : AG c σ0 σ S) {j v : Int} (hj : decide (3 ≤ j) && !decide (j = 4) && !decide (j = 5) = true) : AG c σ0 (gUp σ 57 j v) (gUp S 57 j v) := by
  have h68 : 68 ≤ c := by rcases hc with h | h | h | h | h | h <;> omega
  have j3 : 3 ≤ j ∧ j ≠ 4 ∧ j ≠ 5 := by
    have := Bool.and_eq_true_iff.mp hj
    have t2 := Bool.and_eq_true_iff.mp this.1
    refine ⟨of_decide_eq_true t2.1, fun e => ?_, fun e => ?_⟩
    · rw [decide_eq_true e] at t2; exact absurd t2.2 (by decide)
    · rw [decide_eq_true e] at this; exact absurd this.2 (by decide)
  refine ⟨fun i hi => ?_, ?_, ?_, ?_, fun m hm => ?_, fun q i hq => ?_⟩
  · rw [gUp_at, gUp_at, h.1 i hi]
  · rw [gUp_at, if_neg (by omega)]; exact h.2.1
  · rw [gUp_ne (by omega), gUp_ne (by omega)]; exact h.2.2.1
  · rw [gUp_ne (by omega), gUp_ne (by omega)]; exact h.2.2.2.1
  · rw [gUp_ne (by omega), gUp_ne (by omega)]; exact h.dd m hm
  · by_cases e : q = 57
    · have hq4 := hq.2.2.2 e
      rw [e, gUp_at, if_neg (by omega)]
      have := h.fr hq
      rw [e] at this
      exact this
    · rw [gUp_ne e]; exact h.fr hq
theorem AG.u67 {c : Nat} {σ0 σ S : gH} (hc : isD c) (h : AG c σ0 σ S) {j v : Int} : AG c σ0 (gUp σ 67 j v) (gUp S 67 j v) := by
  have h68 : 68 ≤ c := by rcases hc with h | h | h | h | h | h <;> omega
  refine ⟨fun i hi => ?_, ?_, ?_, ?_, fun m hm => ?_, fun q i hq => ?_⟩
  · rw [gUp_ne (by omega), gUp_ne (by omega)]; exact h.1 i hi
  · rw [gUp_ne (by omega)]; exact h.2.1
  · rw [gUp_ne (by omega), gUp_ne (by omega)]; exact h.2.2.1
  · rw [gUp_own, gUp_own, h.2.2.2.1]
  · rw [gUp_ne (by omega), gUp_ne (by omega)]; exact h.dd m hm
  · rw [gUp_ne hq.2.1]; exact h.fr hq
theorem AG.u66 {c : Nat} {σ0 σ S : gH} (hc : isD c) (h : AG c σ0 σ S) {j v : Int} : AG c σ0 (gUp σ 66 j v) (gUp S 66 j v) := by
  have h68 : 68 ≤ c := by rcases hc with h | h | h | h | h | h <;> omega
  refine ⟨fun i hi => ?_, ?_, ?_, ?_, fun m hm => ?_, fun q i hq => ?_⟩
  · rw [gUp_ne (by omega), gUp_ne (by omega)]; exact h.1 i hi
  · rw [gUp_ne (by omega)]; exact h.2.1
  · rw [gUp_own, gUp_own, h.2.2.1]
  · rw [gUp_ne (by omega), gUp_ne (by omega)]; exact h.2.2.2.1
  · rw [gUp_ne (by omega), gUp_ne (by omega)]; exact h.dd m hm
  · rw [gUp_ne hq.1]; exact h.fr hq
/-! how far the nots, the links that wait at the end go down -/
def ntF (W : Int → Int) (x : Int) : Nat → Int
  | 0 => 0
  | n + 1 => if W n = x then ntF W x n else n + 1
def lkF (W : Int → Int) (x : Int) : Nat → Int
  | 0 => 0
  | n + 1 => if W n = 15 ∨ W n = x then lkF W x n else n + 1
theorem ntF_is (W : Int → Int) (x : Int) : ∀ n : Nat, NTS W x n (ntF W x n)
  | 0 => by
    show NTS W x 0 0
    exact ⟨⟨by omega, by omega⟩, fun i a b => by omega, fun h => by omega⟩
  | n + 1 => by
    have ih := ntF_is W x n
    unfold ntF
    by_cases e : W n = x
    · rw [if_pos e]
      refine ⟨⟨ih.1.1, by have := ih.1.2; omega⟩, fun i a b => ?_, ih.2.2⟩
      by_cases e2 : i = n
      · rw [e2]; exact e
      · exact ih.2.1 i a (by omega)
    · rw [if_neg e]
      exact ⟨⟨by omega, by omega⟩, fun i a b => by omega, fun _ => by rw [show (n : Int) + 1 - 1 = n by omega]; exact e⟩
theorem lkF_is (W : Int → Int) (x : Int) : ∀ n : Nat, LKS W x n (lkF W x n)
  | 0 => by
    show LKS W x 0 0
    exact ⟨⟨by omega, by omega⟩, fun i a b => by omega, fun h => by omega⟩
  | n + 1 => by
    have ih := lkF_is W x n
    unfold lkF
    by_cases e : W n = 15 ∨ W n = x
    · rw [if_pos e]
      refine ⟨⟨ih.1.1, by have := ih.1.2; omega⟩, fun i a b => ?_, ih.2.2⟩
      by_cases e2 : i = n
      · rw [e2]; exact e
      · exact ih.2.1 i a (by omega)
    · rw [if_neg e]
      exact ⟨⟨by omega, by omega⟩, fun i a b => by omega, fun _ => by rw [show (n : Int) + 1 - 1 = n by omega]; omega⟩
theorem ntF_at {W : Int → Int} {x n : Int} (h : 0 ≤ n) : NTS W x n (ntF W x n.toNat) := by
  have := ntF_is W x n.toNat
  rw [show ((n.toNat : Nat) : Int) = n by omega] at this
  exact this
theorem lkF_at {W : Int → Int} {x n : Int} (h : 0 ≤ n) : LKS W x n (lkF W x n.toNat) := by
  have := lkF_is W x n.toNat
  rw [show ((n.toNat : Nat) : Int) = n by omega] at this
  exact this
theorem NTS.one {W : Int → Int} {x n m m' : Int} (h : NTS W x n m) (h' : NTS W x n m') : m = m' := by
  obtain ⟨a, b, c⟩ := h
  obtain ⟨a', b', c'⟩ := h'
  rcases Int.lt_trichotomy m m' with l | l | l
  · exact absurd (b (m' - 1) (by omega) (by omega)) (c' (by omega))
  · exact l
  · exact absurd (b' (m - 1) (by omega) (by omega)) (c (by omega))
theorem LKS.one {W : Int → Int} {x n m m' : Int} (h : LKS W x n m) (h' : LKS W x n m') : m = m' := by
  obtain ⟨a, b, c⟩ := h
  obtain ⟨a', b', c'⟩ := h'
  rcases Int.lt_trichotomy m m' with l | l | l
  · have := b (m' - 1) (by omega) (by omega)
    have := c' (by omega)
    omega
  · exact l
  · have := b' (m - 1) (by omega) (by omega)
    have := c (by omega)
    omega
/-! what each small method makes of the state -/
def PTS (S : gH) (m s n : Int) : gH := gUp (gUp (gUp (gUp S 72 (S 68 15) m) 73 (S 68 15) s) 74 (S 68 15) n) 68 15 (S 68 15 + 1)
def CNS (S : gH) : gH := gUp (gUp (gUp (gUp (gUr (gUr (gUr S 72 (pfl (S 72) (S 68 15) ((S 57 17) - (ntF (S 67) 14 (S 57 17).toNat)) 14)) 73 (pfl (S 73) (S 68 15) ((S 57 17) - (ntF (S 67) 14 (S 57 17).toNat)) 0)) 74 (pfl (S 74) (S 68 15) ((S 57 17) - (ntF (S 67) 14 (S 57 17).toNat)) 0)) 68 15 ((S 68 15) + ((S 57 17) - (ntF (S 67) 14 (S 57 17).toNat)))) 57 17 (ntF (S 67) 14 (S 57 17).toNat)) 57 14 ((S 57 14) - ((S 57 17) - (ntF (S 67) 14 (S 57 17).toNat)))) 57 6 7
def CLS (S : gH) (w : Int) : gH := gUp (gUp (gUr (gUr (gUr S 72 (rvf (S 72) (S 68 15) ((S 57 17) - (lkF (S 67) w (S 57 17).toNat)) (S 67) (S 57 17))) 73 (pfl (S 73) (S 68 15) ((S 57 17) - (lkF (S 67) w (S 57 17).toNat)) 0)) 74 (pfl (S 74) (S 68 15) ((S 57 17) - (lkF (S 67) w (S 57 17).toNat)) 0)) 68 15 ((S 68 15) + ((S 57 17) - (lkF (S 67) w (S 57 17).toNat)))) 57 17 (lkF (S 67) w (S 57 17).toNat)
def LCR (S : gH) (f k : Int) : gH := gUr (gUr (gUp (gUp (gUp (gUp (gUp (gUp (gUp (gUp (gUp (gUp S 68 1 f) 68 0 k) 68 2 0) 68 3 0) 68 4 1) 68 5 365) 68 6 365) 68 7 90) 68 8 0) 68 15 0) 70 (fillF (S 70) 10 0)) 71 (fillF (S 71) 10 0)
theorem kc_put {c : Nat} {σ0 σ S : gH} (hc : isD c) (h : AG c σ0 σ S) (m s n : Int) (hb : 0 ≤ S 68 15 ∧ S 68 15 < 120) : Mt mX4_put 0 [gR c, gI m, gI s, gI n] σ (fun v σ' => v = gX 1 ∧ AG c σ0 σ' (PTS S m s n)) := by
  have hcc := hc
  rcases hcc with rfl | rfl | rfl | rfl | rfl | rfl
  · have e0 : σ 68 = S 68 := h.dd 0 (by decide)
    have e1 : σ 69 = S 69 := h.dd 1 (by decide)
    have e2 : σ 70 = S 70 := h.dd 2 (by decide)
    have e3 : σ 71 = S 71 := h.dd 3 (by decide)
    have e4 : σ 72 = S 72 := h.dd 4 (by decide)
    have e5 : σ 73 = S 73 := h.dd 5 (by decide)
    have e6 : σ 74 = S 74 := h.dd 6 (by decide)
    have e17 : σ 57 17 = S 57 17 := h.1 17 (by decide)
    have e14 : σ 57 14 = S 57 14 := h.1 14 (by decide)
    have e67 : σ 67 = S 67 := h.rw
    refine (kl68_put m s n (by rw [e0]; exact hb)).mono fun v σ1 q => ?_
    obtain ⟨rfl, rfl⟩ := q
    rw [e0]
    exact ⟨rfl, (AG.d hc (AG.d hc (AG.d hc (AG.d hc h 4 (by decide) rfl rfl) 5 (by decide) rfl rfl) 6 (by decide) rfl rfl) 0 (by decide) rfl rfl)⟩
  · have e0 : σ 75 = S 68 := h.dd 0 (by decide)
    have e1 : σ 76 = S 69 := h.dd 1 (by decide)
    have e2 : σ 77 = S 70 := h.dd 2 (by decide)
    have e3 : σ 78 = S 71 := h.dd 3 (by decide)
    have e4 : σ 79 = S 72 := h.dd 4 (by decide)
    have e5 : σ 80 = S 73 := h.dd 5 (by decide)
    have e6 : σ 81 = S 74 := h.dd 6 (by decide)
    have e17 : σ 57 17 = S 57 17 := h.1 17 (by decide)
    have e14 : σ 57 14 = S 57 14 := h.1 14 (by decide)
    have e67 : σ 67 = S 67 := h.rw
    refine (kl75_put m s n (by rw [e0]; exact hb)).mono fun v σ1 q => ?_
    obtain ⟨rfl, rfl⟩ := q
    rw [e0]
    exact ⟨rfl, (AG.d hc (AG.d hc (AG.d hc (AG.d hc h 4 (by decide) rfl rfl) 5 (by decide) rfl rfl) 6 (by decide) rfl rfl) 0 (by decide) rfl rfl)⟩
  · have e0 : σ 82 = S 68 := h.dd 0 (by decide)
    have e1 : σ 83 = S 69 := h.dd 1 (by decide)
    have e2 : σ 84 = S 70 := h.dd 2 (by decide)
    have e3 : σ 85 = S 71 := h.dd 3 (by decide)
    have e4 : σ 86 = S 72 := h.dd 4 (by decide)
    have e5 : σ 87 = S 73 := h.dd 5 (by decide)
    have e6 : σ 88 = S 74 := h.dd 6 (by decide)
    have e17 : σ 57 17 = S 57 17 := h.1 17 (by decide)
    have e14 : σ 57 14 = S 57 14 := h.1 14 (by decide)
    have e67 : σ 67 = S 67 := h.rw
    refine (kl82_put m s n (by rw [e0]; exact hb)).mono fun v σ1 q => ?_
    obtain ⟨rfl, rfl⟩ := q
    rw [e0]
    exact ⟨rfl, (AG.d hc (AG.d hc (AG.d hc (AG.d hc h 4 (by decide) rfl rfl) 5 (by decide) rfl rfl) 6 (by decide) rfl rfl) 0 (by decide) rfl rfl)⟩
  · have e0 : σ 89 = S 68 := h.dd 0 (by decide)
    have e1 : σ 90 = S 69 := h.dd 1 (by decide)
    have e2 : σ 91 = S 70 := h.dd 2 (by decide)
    have e3 : σ 92 = S 71 := h.dd 3 (by decide)
    have e4 : σ 93 = S 72 := h.dd 4 (by decide)
    have e5 : σ 94 = S 73 := h.dd 5 (by decide)
    have e6 : σ 95 = S 74 := h.dd 6 (by decide)
    have e17 : σ 57 17 = S 57 17 := h.1 17 (by decide)
    have e14 : σ 57 14 = S 57 14 := h.1 14 (by decide)
    have e67 : σ 67 = S 67 := h.rw
    refine (kl89_put m s n (by rw [e0]; exact hb)).mono fun v σ1 q => ?_
    obtain ⟨rfl, rfl⟩ := q
    rw [e0]
    exact ⟨rfl, (AG.d hc (AG.d hc (AG.d hc (AG.d hc h 4 (by decide) rfl rfl) 5 (by decide) rfl rfl) 6 (by decide) rfl rfl) 0 (by decide) rfl rfl)⟩
  · have e0 : σ 96 = S 68 := h.dd 0 (by decide)
    have e1 : σ 97 = S 69 := h.dd 1 (by decide)
    have e2 : σ 98 = S 70 := h.dd 2 (by decide)
    have e3 : σ 99 = S 71 := h.dd 3 (by decide)
    have e4 : σ 100 = S 72 := h.dd 4 (by decide)
    have e5 : σ 101 = S 73 := h.dd 5 (by decide)
    have e6 : σ 102 = S 74 := h.dd 6 (by decide)
    have e17 : σ 57 17 = S 57 17 := h.1 17 (by decide)
    have e14 : σ 57 14 = S 57 14 := h.1 14 (by decide)
    have e67 : σ 67 = S 67 := h.rw
    refine (kl96_put m s n (by rw [e0]; exact hb)).mono fun v σ1 q => ?_
    obtain ⟨rfl, rfl⟩ := q
    rw [e0]
    exact ⟨rfl, (AG.d hc (AG.d hc (AG.d hc (AG.d hc h 4 (by decide) rfl rfl) 5 (by decide) rfl rfl) 6 (by decide) rfl rfl) 0 (by decide) rfl rfl)⟩
  · have e0 : σ 103 = S 68 := h.dd 0 (by decide)
    have e1 : σ 104 = S 69 := h.dd 1 (by decide)
    have e2 : σ 105 = S 70 := h.dd 2 (by decide)
    have e3 : σ 106 = S 71 := h.dd 3 (by decide)
    have e4 : σ 107 = S 72 := h.dd 4 (by decide)
    have e5 : σ 108 = S 73 := h.dd 5 (by decide)
    have e6 : σ 109 = S 74 := h.dd 6 (by decide)
    have e17 : σ 57 17 = S 57 17 := h.1 17 (by decide)
    have e14 : σ 57 14 = S 57 14 := h.1 14 (by decide)
    have e67 : σ 67 = S 67 := h.rw
    refine (kl103_put m s n (by rw [e0]; exact hb)).mono fun v σ1 q => ?_
    obtain ⟨rfl, rfl⟩ := q
    rw [e0]
    exact ⟨rfl, (AG.d hc (AG.d hc (AG.d hc (AG.d hc h 4 (by decide) rfl rfl) 5 (by decide) rfl rfl) 6 (by decide) rfl rfl) 0 (by decide) rfl rfl)⟩
theorem kc_begin {c : Nat} {σ0 σ S : gH} (hc : isD c) (h : AG c σ0 σ S) (r : Int) (hb : 0 ≤ r ∧ r < 10) : Mt mX4_begin 0 [gR c, gI r] σ (fun v σ' => v = gX 1 ∧ AG c σ0 σ' (gUp (gUp S 70 r (S 68 15)) 71 r (S 68 15))) := by
  have hcc := hc
  rcases hcc with rfl | rfl | rfl | rfl | rfl | rfl
  · have e0 : σ 68 = S 68 := h.dd 0 (by decide)
    have e1 : σ 69 = S 69 := h.dd 1 (by decide)
    have e2 : σ 70 = S 70 := h.dd 2 (by decide)
    have e3 : σ 71 = S 71 := h.dd 3 (by decide)
    have e4 : σ 72 = S 72 := h.dd 4 (by decide)
    have e5 : σ 73 = S 73 := h.dd 5 (by decide)
    have e6 : σ 74 = S 74 := h.dd 6 (by decide)
    have e17 : σ 57 17 = S 57 17 := h.1 17 (by decide)
    have e14 : σ 57 14 = S 57 14 := h.1 14 (by decide)
    have e67 : σ 67 = S 67 := h.rw
    refine (kl68_begin r hb).mono fun v σ1 q => ?_
    obtain ⟨rfl, rfl⟩ := q
    rw [e0]
    exact ⟨rfl, (AG.d hc (AG.d hc h 2 (by decide) rfl rfl) 3 (by decide) rfl rfl)⟩
  · have e0 : σ 75 = S 68 := h.dd 0 (by decide)
    have e1 : σ 76 = S 69 := h.dd 1 (by decide)
    have e2 : σ 77 = S 70 := h.dd 2 (by decide)
    have e3 : σ 78 = S 71 := h.dd 3 (by decide)
    have e4 : σ 79 = S 72 := h.dd 4 (by decide)
    have e5 : σ 80 = S 73 := h.dd 5 (by decide)
    have e6 : σ 81 = S 74 := h.dd 6 (by decide)
    have e17 : σ 57 17 = S 57 17 := h.1 17 (by decide)
    have e14 : σ 57 14 = S 57 14 := h.1 14 (by decide)
    have e67 : σ 67 = S 67 := h.rw
    refine (kl75_begin r hb).mono fun v σ1 q => ?_
    obtain ⟨rfl, rfl⟩ := q
    rw [e0]
    exact ⟨rfl, (AG.d hc (AG.d hc h 2 (by decide) rfl rfl) 3 (by decide) rfl rfl)⟩
  · have e0 : σ 82 = S 68 := h.dd 0 (by decide)
    have e1 : σ 83 = S 69 := h.dd 1 (by decide)
    have e2 : σ 84 = S 70 := h.dd 2 (by decide)
    have e3 : σ 85 = S 71 := h.dd 3 (by decide)
    have e4 : σ 86 = S 72 := h.dd 4 (by decide)
    have e5 : σ 87 = S 73 := h.dd 5 (by decide)
    have e6 : σ 88 = S 74 := h.dd 6 (by decide)
    have e17 : σ 57 17 = S 57 17 := h.1 17 (by decide)
    have e14 : σ 57 14 = S 57 14 := h.1 14 (by decide)
    have e67 : σ 67 = S 67 := h.rw
    refine (kl82_begin r hb).mono fun v σ1 q => ?_
    obtain ⟨rfl, rfl⟩ := q
    rw [e0]
    exact ⟨rfl, (AG.d hc (AG.d hc h 2 (by decide) rfl rfl) 3 (by decide) rfl rfl)⟩
  · have e0 : σ 89 = S 68 := h.dd 0 (by decide)
    have e1 : σ 90 = S 69 := h.dd 1 (by decide)
    have e2 : σ 91 = S 70 := h.dd 2 (by decide)
    have e3 : σ 92 = S 71 := h.dd 3 (by decide)
    have e4 : σ 93 = S 72 := h.dd 4 (by decide)
    have e5 : σ 94 = S 73 := h.dd 5 (by decide)
    have e6 : σ 95 = S 74 := h.dd 6 (by decide)
    have e17 : σ 57 17 = S 57 17 := h.1 17 (by decide)
    have e14 : σ 57 14 = S 57 14 := h.1 14 (by decide)
    have e67 : σ 67 = S 67 := h.rw
    refine (kl89_begin r hb).mono fun v σ1 q => ?_
    obtain ⟨rfl, rfl⟩ := q
    rw [e0]
    exact ⟨rfl, (AG.d hc (AG.d hc h 2 (by decide) rfl rfl) 3 (by decide) rfl rfl)⟩
  · have e0 : σ 96 = S 68 := h.dd 0 (by decide)
    have e1 : σ 97 = S 69 := h.dd 1 (by decide)
    have e2 : σ 98 = S 70 := h.dd 2 (by decide)
    have e3 : σ 99 = S 71 := h.dd 3 (by decide)
    have e4 : σ 100 = S 72 := h.dd 4 (by decide)
    have e5 : σ 101 = S 73 := h.dd 5 (by decide)
    have e6 : σ 102 = S 74 := h.dd 6 (by decide)
    have e17 : σ 57 17 = S 57 17 := h.1 17 (by decide)
    have e14 : σ 57 14 = S 57 14 := h.1 14 (by decide)
    have e67 : σ 67 = S 67 := h.rw
    refine (kl96_begin r hb).mono fun v σ1 q => ?_
    obtain ⟨rfl, rfl⟩ := q
    rw [e0]
    exact ⟨rfl, (AG.d hc (AG.d hc h 2 (by decide) rfl rfl) 3 (by decide) rfl rfl)⟩
  · have e0 : σ 103 = S 68 := h.dd 0 (by decide)
    have e1 : σ 104 = S 69 := h.dd 1 (by decide)
    have e2 : σ 105 = S 70 := h.dd 2 (by decide)
    have e3 : σ 106 = S 71 := h.dd 3 (by decide)
    have e4 : σ 107 = S 72 := h.dd 4 (by decide)
    have e5 : σ 108 = S 73 := h.dd 5 (by decide)
    have e6 : σ 109 = S 74 := h.dd 6 (by decide)
    have e17 : σ 57 17 = S 57 17 := h.1 17 (by decide)
    have e14 : σ 57 14 = S 57 14 := h.1 14 (by decide)
    have e67 : σ 67 = S 67 := h.rw
    refine (kl103_begin r hb).mono fun v σ1 q => ?_
    obtain ⟨rfl, rfl⟩ := q
    rw [e0]
    exact ⟨rfl, (AG.d hc (AG.d hc h 2 (by decide) rfl rfl) 3 (by decide) rfl rfl)⟩
theorem kc_finish {c : Nat} {σ0 σ S : gH} (hc : isD c) (h : AG c σ0 σ S) (r : Int) (hb : 0 ≤ r ∧ r < 10) : Mt mX4_finish 0 [gR c, gI r] σ (fun v σ' => v = gX 1 ∧ AG c σ0 σ' (gUp S 71 r (S 68 15))) := by
  have hcc := hc
  rcases hcc with rfl | rfl | rfl | rfl | rfl | rfl
  · have e0 : σ 68 = S 68 := h.dd 0 (by decide)
    have e1 : σ 69 = S 69 := h.dd 1 (by decide)
    have e2 : σ 70 = S 70 := h.dd 2 (by decide)
    have e3 : σ 71 = S 71 := h.dd 3 (by decide)
    have e4 : σ 72 = S 72 := h.dd 4 (by decide)
    have e5 : σ 73 = S 73 := h.dd 5 (by decide)
    have e6 : σ 74 = S 74 := h.dd 6 (by decide)
    have e17 : σ 57 17 = S 57 17 := h.1 17 (by decide)
    have e14 : σ 57 14 = S 57 14 := h.1 14 (by decide)
    have e67 : σ 67 = S 67 := h.rw
    refine (kl68_finish r hb).mono fun v σ1 q => ?_
    obtain ⟨rfl, rfl⟩ := q
    rw [e0]
    exact ⟨rfl, (AG.d hc h 3 (by decide) rfl rfl)⟩
  · have e0 : σ 75 = S 68 := h.dd 0 (by decide)
    have e1 : σ 76 = S 69 := h.dd 1 (by decide)
    have e2 : σ 77 = S 70 := h.dd 2 (by decide)
    have e3 : σ 78 = S 71 := h.dd 3 (by decide)
    have e4 : σ 79 = S 72 := h.dd 4 (by decide)
    have e5 : σ 80 = S 73 := h.dd 5 (by decide)
    have e6 : σ 81 = S 74 := h.dd 6 (by decide)
    have e17 : σ 57 17 = S 57 17 := h.1 17 (by decide)
    have e14 : σ 57 14 = S 57 14 := h.1 14 (by decide)
    have e67 : σ 67 = S 67 := h.rw
    refine (kl75_finish r hb).mono fun v σ1 q => ?_
    obtain ⟨rfl, rfl⟩ := q
    rw [e0]
    exact ⟨rfl, (AG.d hc h 3 (by decide) rfl rfl)⟩
  · have e0 : σ 82 = S 68 := h.dd 0 (by decide)
    have e1 : σ 83 = S 69 := h.dd 1 (by decide)
    have e2 : σ 84 = S 70 := h.dd 2 (by decide)
    have e3 : σ 85 = S 71 := h.dd 3 (by decide)
    have e4 : σ 86 = S 72 := h.dd 4 (by decide)
    have e5 : σ 87 = S 73 := h.dd 5 (by decide)
    have e6 : σ 88 = S 74 := h.dd 6 (by decide)
    have e17 : σ 57 17 = S 57 17 := h.1 17 (by decide)
    have e14 : σ 57 14 = S 57 14 := h.1 14 (by decide)
    have e67 : σ 67 = S 67 := h.rw
    refine (kl82_finish r hb).mono fun v σ1 q => ?_
    obtain ⟨rfl, rfl⟩ := q
    rw [e0]
    exact ⟨rfl, (AG.d hc h 3 (by decide) rfl rfl)⟩
  · have e0 : σ 89 = S 68 := h.dd 0 (by decide)
    have e1 : σ 90 = S 69 := h.dd 1 (by decide)
    have e2 : σ 91 = S 70 := h.dd 2 (by decide)
    have e3 : σ 92 = S 71 := h.dd 3 (by decide)
    have e4 : σ 93 = S 72 := h.dd 4 (by decide)
    have e5 : σ 94 = S 73 := h.dd 5 (by decide)
    have e6 : σ 95 = S 74 := h.dd 6 (by decide)
    have e17 : σ 57 17 = S 57 17 := h.1 17 (by decide)
    have e14 : σ 57 14 = S 57 14 := h.1 14 (by decide)
    have e67 : σ 67 = S 67 := h.rw
    refine (kl89_finish r hb).mono fun v σ1 q => ?_
    obtain ⟨rfl, rfl⟩ := q
    rw [e0]
    exact ⟨rfl, (AG.d hc h 3 (by decide) rfl rfl)⟩
  · have e0 : σ 96 = S 68 := h.dd 0 (by decide)
    have e1 : σ 97 = S 69 := h.dd 1 (by decide)
    have e2 : σ 98 = S 70 := h.dd 2 (by decide)
    have e3 : σ 99 = S 71 := h.dd 3 (by decide)
    have e4 : σ 100 = S 72 := h.dd 4 (by decide)
    have e5 : σ 101 = S 73 := h.dd 5 (by decide)
    have e6 : σ 102 = S 74 := h.dd 6 (by decide)
    have e17 : σ 57 17 = S 57 17 := h.1 17 (by decide)
    have e14 : σ 57 14 = S 57 14 := h.1 14 (by decide)
    have e67 : σ 67 = S 67 := h.rw
    refine (kl96_finish r hb).mono fun v σ1 q => ?_
    obtain ⟨rfl, rfl⟩ := q
    rw [e0]
    exact ⟨rfl, (AG.d hc h 3 (by decide) rfl rfl)⟩
  · have e0 : σ 103 = S 68 := h.dd 0 (by decide)
    have e1 : σ 104 = S 69 := h.dd 1 (by decide)
    have e2 : σ 105 = S 70 := h.dd 2 (by decide)
    have e3 : σ 106 = S 71 := h.dd 3 (by decide)
    have e4 : σ 107 = S 72 := h.dd 4 (by decide)
    have e5 : σ 108 = S 73 := h.dd 5 (by decide)
    have e6 : σ 109 = S 74 := h.dd 6 (by decide)
    have e17 : σ 57 17 = S 57 17 := h.1 17 (by decide)
    have e14 : σ 57 14 = S 57 14 := h.1 14 (by decide)
    have e67 : σ 67 = S 67 := h.rw
    refine (kl103_finish r hb).mono fun v σ1 q => ?_
    obtain ⟨rfl, rfl⟩ := q
    rw [e0]
    exact ⟨rfl, (AG.d hc h 3 (by decide) rfl rfl)⟩
theorem kc_addTell {c : Nat} {σ0 σ S : gH} (hc : isD c) (h : AG c σ0 σ S) (x : Int) (hb : 0 ≤ S 68 3 ∧ S 68 3 < 8) : Mt mX4_addTell 0 [gR c, gI x] σ (fun v σ' => v = gI (S 68 3) ∧ AG c σ0 σ' (gUp (gUp S 69 (S 68 3) x) 68 3 (S 68 3 + 1))) := by
  have hcc := hc
  rcases hcc with rfl | rfl | rfl | rfl | rfl | rfl
  · have e0 : σ 68 = S 68 := h.dd 0 (by decide)
    have e1 : σ 69 = S 69 := h.dd 1 (by decide)
    have e2 : σ 70 = S 70 := h.dd 2 (by decide)
    have e3 : σ 71 = S 71 := h.dd 3 (by decide)
    have e4 : σ 72 = S 72 := h.dd 4 (by decide)
    have e5 : σ 73 = S 73 := h.dd 5 (by decide)
    have e6 : σ 74 = S 74 := h.dd 6 (by decide)
    have e17 : σ 57 17 = S 57 17 := h.1 17 (by decide)
    have e14 : σ 57 14 = S 57 14 := h.1 14 (by decide)
    have e67 : σ 67 = S 67 := h.rw
    refine (kl68_addTell x (by rw [e0]; exact hb)).mono fun v σ1 q => ?_
    obtain ⟨rfl, rfl⟩ := q
    rw [e0]
    exact ⟨rfl, (AG.d hc (AG.d hc h 1 (by decide) rfl rfl) 0 (by decide) rfl rfl)⟩
  · have e0 : σ 75 = S 68 := h.dd 0 (by decide)
    have e1 : σ 76 = S 69 := h.dd 1 (by decide)
    have e2 : σ 77 = S 70 := h.dd 2 (by decide)
    have e3 : σ 78 = S 71 := h.dd 3 (by decide)
    have e4 : σ 79 = S 72 := h.dd 4 (by decide)
    have e5 : σ 80 = S 73 := h.dd 5 (by decide)
    have e6 : σ 81 = S 74 := h.dd 6 (by decide)
    have e17 : σ 57 17 = S 57 17 := h.1 17 (by decide)
    have e14 : σ 57 14 = S 57 14 := h.1 14 (by decide)
    have e67 : σ 67 = S 67 := h.rw
    refine (kl75_addTell x (by rw [e0]; exact hb)).mono fun v σ1 q => ?_
    obtain ⟨rfl, rfl⟩ := q
    rw [e0]
    exact ⟨rfl, (AG.d hc (AG.d hc h 1 (by decide) rfl rfl) 0 (by decide) rfl rfl)⟩
  · have e0 : σ 82 = S 68 := h.dd 0 (by decide)
    have e1 : σ 83 = S 69 := h.dd 1 (by decide)
    have e2 : σ 84 = S 70 := h.dd 2 (by decide)
    have e3 : σ 85 = S 71 := h.dd 3 (by decide)
    have e4 : σ 86 = S 72 := h.dd 4 (by decide)
    have e5 : σ 87 = S 73 := h.dd 5 (by decide)
    have e6 : σ 88 = S 74 := h.dd 6 (by decide)
    have e17 : σ 57 17 = S 57 17 := h.1 17 (by decide)
    have e14 : σ 57 14 = S 57 14 := h.1 14 (by decide)
    have e67 : σ 67 = S 67 := h.rw
    refine (kl82_addTell x (by rw [e0]; exact hb)).mono fun v σ1 q => ?_
    obtain ⟨rfl, rfl⟩ := q
    rw [e0]
    exact ⟨rfl, (AG.d hc (AG.d hc h 1 (by decide) rfl rfl) 0 (by decide) rfl rfl)⟩
  · have e0 : σ 89 = S 68 := h.dd 0 (by decide)
    have e1 : σ 90 = S 69 := h.dd 1 (by decide)
    have e2 : σ 91 = S 70 := h.dd 2 (by decide)
    have e3 : σ 92 = S 71 := h.dd 3 (by decide)
    have e4 : σ 93 = S 72 := h.dd 4 (by decide)
    have e5 : σ 94 = S 73 := h.dd 5 (by decide)
    have e6 : σ 95 = S 74 := h.dd 6 (by decide)
    have e17 : σ 57 17 = S 57 17 := h.1 17 (by decide)
    have e14 : σ 57 14 = S 57 14 := h.1 14 (by decide)
    have e67 : σ 67 = S 67 := h.rw
    refine (kl89_addTell x (by rw [e0]; exact hb)).mono fun v σ1 q => ?_
    obtain ⟨rfl, rfl⟩ := q
    rw [e0]
    exact ⟨rfl, (AG.d hc (AG.d hc h 1 (by decide) rfl rfl) 0 (by decide) rfl rfl)⟩
  · have e0 : σ 96 = S 68 := h.dd 0 (by decide)
    have e1 : σ 97 = S 69 := h.dd 1 (by decide)
    have e2 : σ 98 = S 70 := h.dd 2 (by decide)
    have e3 : σ 99 = S 71 := h.dd 3 (by decide)
    have e4 : σ 100 = S 72 := h.dd 4 (by decide)
    have e5 : σ 101 = S 73 := h.dd 5 (by decide)
    have e6 : σ 102 = S 74 := h.dd 6 (by decide)
    have e17 : σ 57 17 = S 57 17 := h.1 17 (by decide)
    have e14 : σ 57 14 = S 57 14 := h.1 14 (by decide)
    have e67 : σ 67 = S 67 := h.rw
    refine (kl96_addTell x (by rw [e0]; exact hb)).mono fun v σ1 q => ?_
    obtain ⟨rfl, rfl⟩ := q
    rw [e0]
    exact ⟨rfl, (AG.d hc (AG.d hc h 1 (by decide) rfl rfl) 0 (by decide) rfl rfl)⟩
  · have e0 : σ 103 = S 68 := h.dd 0 (by decide)
    have e1 : σ 104 = S 69 := h.dd 1 (by decide)
    have e2 : σ 105 = S 70 := h.dd 2 (by decide)
    have e3 : σ 106 = S 71 := h.dd 3 (by decide)
    have e4 : σ 107 = S 72 := h.dd 4 (by decide)
    have e5 : σ 108 = S 73 := h.dd 5 (by decide)
    have e6 : σ 109 = S 74 := h.dd 6 (by decide)
    have e17 : σ 57 17 = S 57 17 := h.1 17 (by decide)
    have e14 : σ 57 14 = S 57 14 := h.1 14 (by decide)
    have e67 : σ 67 = S 67 := h.rw
    refine (kl103_addTell x (by rw [e0]; exact hb)).mono fun v σ1 q => ?_
    obtain ⟨rfl, rfl⟩ := q
    rw [e0]
    exact ⟨rfl, (AG.d hc (AG.d hc h 1 (by decide) rfl rfl) 0 (by decide) rfl rfl)⟩
theorem kc_countRule {c : Nat} {σ0 σ S : gH} (hc : isD c) (h : AG c σ0 σ S) (hb : 0 ≤ S 68 2 ∧ S 68 2 < 600) : Mt mX4_countRule 0 [gR c] σ (fun v σ' => v = gX 1 ∧ AG c σ0 σ' (gUp S 68 2 (S 68 2 + 1))) := by
  have hcc := hc
  rcases hcc with rfl | rfl | rfl | rfl | rfl | rfl
  · have e0 : σ 68 = S 68 := h.dd 0 (by decide)
    have e1 : σ 69 = S 69 := h.dd 1 (by decide)
    have e2 : σ 70 = S 70 := h.dd 2 (by decide)
    have e3 : σ 71 = S 71 := h.dd 3 (by decide)
    have e4 : σ 72 = S 72 := h.dd 4 (by decide)
    have e5 : σ 73 = S 73 := h.dd 5 (by decide)
    have e6 : σ 74 = S 74 := h.dd 6 (by decide)
    have e17 : σ 57 17 = S 57 17 := h.1 17 (by decide)
    have e14 : σ 57 14 = S 57 14 := h.1 14 (by decide)
    have e67 : σ 67 = S 67 := h.rw
    refine (kl68_countRule (by rw [e0]; exact hb)).mono fun v σ1 q => ?_
    obtain ⟨rfl, rfl⟩ := q
    rw [e0]
    exact ⟨rfl, (AG.d hc h 0 (by decide) rfl rfl)⟩
  · have e0 : σ 75 = S 68 := h.dd 0 (by decide)
    have e1 : σ 76 = S 69 := h.dd 1 (by decide)
    have e2 : σ 77 = S 70 := h.dd 2 (by decide)
    have e3 : σ 78 = S 71 := h.dd 3 (by decide)
    have e4 : σ 79 = S 72 := h.dd 4 (by decide)
    have e5 : σ 80 = S 73 := h.dd 5 (by decide)
    have e6 : σ 81 = S 74 := h.dd 6 (by decide)
    have e17 : σ 57 17 = S 57 17 := h.1 17 (by decide)
    have e14 : σ 57 14 = S 57 14 := h.1 14 (by decide)
    have e67 : σ 67 = S 67 := h.rw
    refine (kl75_countRule (by rw [e0]; exact hb)).mono fun v σ1 q => ?_
    obtain ⟨rfl, rfl⟩ := q
    rw [e0]
    exact ⟨rfl, (AG.d hc h 0 (by decide) rfl rfl)⟩
  · have e0 : σ 82 = S 68 := h.dd 0 (by decide)
    have e1 : σ 83 = S 69 := h.dd 1 (by decide)
    have e2 : σ 84 = S 70 := h.dd 2 (by decide)
    have e3 : σ 85 = S 71 := h.dd 3 (by decide)
    have e4 : σ 86 = S 72 := h.dd 4 (by decide)
    have e5 : σ 87 = S 73 := h.dd 5 (by decide)
    have e6 : σ 88 = S 74 := h.dd 6 (by decide)
    have e17 : σ 57 17 = S 57 17 := h.1 17 (by decide)
    have e14 : σ 57 14 = S 57 14 := h.1 14 (by decide)
    have e67 : σ 67 = S 67 := h.rw
    refine (kl82_countRule (by rw [e0]; exact hb)).mono fun v σ1 q => ?_
    obtain ⟨rfl, rfl⟩ := q
    rw [e0]
    exact ⟨rfl, (AG.d hc h 0 (by decide) rfl rfl)⟩
  · have e0 : σ 89 = S 68 := h.dd 0 (by decide)
    have e1 : σ 90 = S 69 := h.dd 1 (by decide)
    have e2 : σ 91 = S 70 := h.dd 2 (by decide)
    have e3 : σ 92 = S 71 := h.dd 3 (by decide)
    have e4 : σ 93 = S 72 := h.dd 4 (by decide)
    have e5 : σ 94 = S 73 := h.dd 5 (by decide)
    have e6 : σ 95 = S 74 := h.dd 6 (by decide)
    have e17 : σ 57 17 = S 57 17 := h.1 17 (by decide)
    have e14 : σ 57 14 = S 57 14 := h.1 14 (by decide)
    have e67 : σ 67 = S 67 := h.rw
    refine (kl89_countRule (by rw [e0]; exact hb)).mono fun v σ1 q => ?_
    obtain ⟨rfl, rfl⟩ := q
    rw [e0]
    exact ⟨rfl, (AG.d hc h 0 (by decide) rfl rfl)⟩
  · have e0 : σ 96 = S 68 := h.dd 0 (by decide)
    have e1 : σ 97 = S 69 := h.dd 1 (by decide)
    have e2 : σ 98 = S 70 := h.dd 2 (by decide)
    have e3 : σ 99 = S 71 := h.dd 3 (by decide)
    have e4 : σ 100 = S 72 := h.dd 4 (by decide)
    have e5 : σ 101 = S 73 := h.dd 5 (by decide)
    have e6 : σ 102 = S 74 := h.dd 6 (by decide)
    have e17 : σ 57 17 = S 57 17 := h.1 17 (by decide)
    have e14 : σ 57 14 = S 57 14 := h.1 14 (by decide)
    have e67 : σ 67 = S 67 := h.rw
    refine (kl96_countRule (by rw [e0]; exact hb)).mono fun v σ1 q => ?_
    obtain ⟨rfl, rfl⟩ := q
    rw [e0]
    exact ⟨rfl, (AG.d hc h 0 (by decide) rfl rfl)⟩
  · have e0 : σ 103 = S 68 := h.dd 0 (by decide)
    have e1 : σ 104 = S 69 := h.dd 1 (by decide)
    have e2 : σ 105 = S 70 := h.dd 2 (by decide)
    have e3 : σ 106 = S 71 := h.dd 3 (by decide)
    have e4 : σ 107 = S 72 := h.dd 4 (by decide)
    have e5 : σ 108 = S 73 := h.dd 5 (by decide)
    have e6 : σ 109 = S 74 := h.dd 6 (by decide)
    have e17 : σ 57 17 = S 57 17 := h.1 17 (by decide)
    have e14 : σ 57 14 = S 57 14 := h.1 14 (by decide)
    have e67 : σ 67 = S 67 := h.rw
    refine (kl103_countRule (by rw [e0]; exact hb)).mono fun v σ1 q => ?_
    obtain ⟨rfl, rfl⟩ := q
    rw [e0]
    exact ⟨rfl, (AG.d hc h 0 (by decide) rfl rfl)⟩
theorem kc_set {c : Nat} {σ0 σ S : gH} (hc : isD c) (h : AG c σ0 σ S) (x n : Int) : Mt mX4_set 0 [gR c, gI x, gI n] σ (fun v σ' => v = gX 1 ∧ AG c σ0 σ' (gUp S 68 (stJ x) n)) := by
  have hcc := hc
  rcases hcc with rfl | rfl | rfl | rfl | rfl | rfl
  · have e0 : σ 68 = S 68 := h.dd 0 (by decide)
    have e1 : σ 69 = S 69 := h.dd 1 (by decide)
    have e2 : σ 70 = S 70 := h.dd 2 (by decide)
    have e3 : σ 71 = S 71 := h.dd 3 (by decide)
    have e4 : σ 72 = S 72 := h.dd 4 (by decide)
    have e5 : σ 73 = S 73 := h.dd 5 (by decide)
    have e6 : σ 74 = S 74 := h.dd 6 (by decide)
    have e17 : σ 57 17 = S 57 17 := h.1 17 (by decide)
    have e14 : σ 57 14 = S 57 14 := h.1 14 (by decide)
    have e67 : σ 67 = S 67 := h.rw
    refine (kl68_set x n).mono fun v σ1 q => ?_
    obtain ⟨rfl, rfl⟩ := q
    exact ⟨rfl, (AG.d hc h 0 (by decide) rfl rfl)⟩
  · have e0 : σ 75 = S 68 := h.dd 0 (by decide)
    have e1 : σ 76 = S 69 := h.dd 1 (by decide)
    have e2 : σ 77 = S 70 := h.dd 2 (by decide)
    have e3 : σ 78 = S 71 := h.dd 3 (by decide)
    have e4 : σ 79 = S 72 := h.dd 4 (by decide)
    have e5 : σ 80 = S 73 := h.dd 5 (by decide)
    have e6 : σ 81 = S 74 := h.dd 6 (by decide)
    have e17 : σ 57 17 = S 57 17 := h.1 17 (by decide)
    have e14 : σ 57 14 = S 57 14 := h.1 14 (by decide)
    have e67 : σ 67 = S 67 := h.rw
    refine (kl75_set x n).mono fun v σ1 q => ?_
    obtain ⟨rfl, rfl⟩ := q
    exact ⟨rfl, (AG.d hc h 0 (by decide) rfl rfl)⟩
  · have e0 : σ 82 = S 68 := h.dd 0 (by decide)
    have e1 : σ 83 = S 69 := h.dd 1 (by decide)
    have e2 : σ 84 = S 70 := h.dd 2 (by decide)
    have e3 : σ 85 = S 71 := h.dd 3 (by decide)
    have e4 : σ 86 = S 72 := h.dd 4 (by decide)
    have e5 : σ 87 = S 73 := h.dd 5 (by decide)
    have e6 : σ 88 = S 74 := h.dd 6 (by decide)
    have e17 : σ 57 17 = S 57 17 := h.1 17 (by decide)
    have e14 : σ 57 14 = S 57 14 := h.1 14 (by decide)
    have e67 : σ 67 = S 67 := h.rw
    refine (kl82_set x n).mono fun v σ1 q => ?_
    obtain ⟨rfl, rfl⟩ := q
    exact ⟨rfl, (AG.d hc h 0 (by decide) rfl rfl)⟩
  · have e0 : σ 89 = S 68 := h.dd 0 (by decide)
    have e1 : σ 90 = S 69 := h.dd 1 (by decide)
    have e2 : σ 91 = S 70 := h.dd 2 (by decide)
    have e3 : σ 92 = S 71 := h.dd 3 (by decide)
    have e4 : σ 93 = S 72 := h.dd 4 (by decide)
    have e5 : σ 94 = S 73 := h.dd 5 (by decide)
    have e6 : σ 95 = S 74 := h.dd 6 (by decide)
    have e17 : σ 57 17 = S 57 17 := h.1 17 (by decide)
    have e14 : σ 57 14 = S 57 14 := h.1 14 (by decide)
    have e67 : σ 67 = S 67 := h.rw
    refine (kl89_set x n).mono fun v σ1 q => ?_
    obtain ⟨rfl, rfl⟩ := q
    exact ⟨rfl, (AG.d hc h 0 (by decide) rfl rfl)⟩
  · have e0 : σ 96 = S 68 := h.dd 0 (by decide)
    have e1 : σ 97 = S 69 := h.dd 1 (by decide)
    have e2 : σ 98 = S 70 := h.dd 2 (by decide)
    have e3 : σ 99 = S 71 := h.dd 3 (by decide)
    have e4 : σ 100 = S 72 := h.dd 4 (by decide)
    have e5 : σ 101 = S 73 := h.dd 5 (by decide)
    have e6 : σ 102 = S 74 := h.dd 6 (by decide)
    have e17 : σ 57 17 = S 57 17 := h.1 17 (by decide)
    have e14 : σ 57 14 = S 57 14 := h.1 14 (by decide)
    have e67 : σ 67 = S 67 := h.rw
    refine (kl96_set x n).mono fun v σ1 q => ?_
    obtain ⟨rfl, rfl⟩ := q
    exact ⟨rfl, (AG.d hc h 0 (by decide) rfl rfl)⟩
  · have e0 : σ 103 = S 68 := h.dd 0 (by decide)
    have e1 : σ 104 = S 69 := h.dd 1 (by decide)
    have e2 : σ 105 = S 70 := h.dd 2 (by decide)
    have e3 : σ 106 = S 71 := h.dd 3 (by decide)
    have e4 : σ 107 = S 72 := h.dd 4 (by decide)
    have e5 : σ 108 = S 73 := h.dd 5 (by decide)
    have e6 : σ 109 = S 74 := h.dd 6 (by decide)
    have e17 : σ 57 17 = S 57 17 := h.1 17 (by decide)
    have e14 : σ 57 14 = S 57 14 := h.1 14 (by decide)
    have e67 : σ 67 = S 67 := h.rw
    refine (kl103_set x n).mono fun v σ1 q => ?_
    obtain ⟨rfl, rfl⟩ := q
    exact ⟨rfl, (AG.d hc h 0 (by decide) rfl rfl)⟩
theorem kc_totalTells {c : Nat} {σ0 σ S : gH} (hc : isD c) (h : AG c σ0 σ S) : Mt mX4_totalTells 0 [gR c] σ (rE (gI (S 68 3)) σ) := by
  have e : σ c = S 68 := h.dd 0 (by decide)
  rw [← e]
  rcases hc with rfl | rfl | rfl | rfl | rfl | rfl
  · exact kl68_totalTells
  · exact kl75_totalTells
  · exact kl82_totalTells
  · exact kl89_totalTells
  · exact kl96_totalTells
  · exact kl103_totalTells
theorem kc_clear {c : Nat} {σ0 σ S : gH} (hc : isD c) (h : AG c σ0 σ S) (f k : Int) : Mt mX4_clear 1 [gR c, gI f, gI k] σ (fun v σ' => v = gX 1 ∧ AG c σ0 σ' (LCR S f k)) := by
  have hcc := hc
  rcases hcc with rfl | rfl | rfl | rfl | rfl | rfl
  · have e0 : σ 68 = S 68 := h.dd 0 (by decide)
    have e1 : σ 69 = S 69 := h.dd 1 (by decide)
    have e2 : σ 70 = S 70 := h.dd 2 (by decide)
    have e3 : σ 71 = S 71 := h.dd 3 (by decide)
    have e4 : σ 72 = S 72 := h.dd 4 (by decide)
    have e5 : σ 73 = S 73 := h.dd 5 (by decide)
    have e6 : σ 74 = S 74 := h.dd 6 (by decide)
    have e17 : σ 57 17 = S 57 17 := h.1 17 (by decide)
    have e14 : σ 57 14 = S 57 14 := h.1 14 (by decide)
    have e67 : σ 67 = S 67 := h.rw
    refine (kl68_clear f k).mono fun v σ1 q => ?_
    obtain ⟨rfl, rfl⟩ := q
    rw [e2, e3]
    exact ⟨rfl, (AG.dR hc (AG.dR hc (AG.d hc (AG.d hc (AG.d hc (AG.d hc (AG.d hc (AG.d hc (AG.d hc (AG.d hc (AG.d hc (AG.d hc h 0 (by decide) rfl rfl) 0 (by decide) rfl rfl) 0 (by decide) rfl rfl) 0 (by decide) rfl rfl) 0 (by decide) rfl rfl) 0 (by decide) rfl rfl) 0 (by decide) rfl rfl) 0 (by decide) rfl rfl) 0 (by decide) rfl rfl) 0 (by decide) rfl rfl) 2 (by decide) rfl rfl) 3 (by decide) rfl rfl)⟩
  · have e0 : σ 75 = S 68 := h.dd 0 (by decide)
    have e1 : σ 76 = S 69 := h.dd 1 (by decide)
    have e2 : σ 77 = S 70 := h.dd 2 (by decide)
    have e3 : σ 78 = S 71 := h.dd 3 (by decide)
    have e4 : σ 79 = S 72 := h.dd 4 (by decide)
    have e5 : σ 80 = S 73 := h.dd 5 (by decide)
    have e6 : σ 81 = S 74 := h.dd 6 (by decide)
    have e17 : σ 57 17 = S 57 17 := h.1 17 (by decide)
    have e14 : σ 57 14 = S 57 14 := h.1 14 (by decide)
    have e67 : σ 67 = S 67 := h.rw
    refine (kl75_clear f k).mono fun v σ1 q => ?_
    obtain ⟨rfl, rfl⟩ := q
    rw [e2, e3]
    exact ⟨rfl, (AG.dR hc (AG.dR hc (AG.d hc (AG.d hc (AG.d hc (AG.d hc (AG.d hc (AG.d hc (AG.d hc (AG.d hc (AG.d hc (AG.d hc h 0 (by decide) rfl rfl) 0 (by decide) rfl rfl) 0 (by decide) rfl rfl) 0 (by decide) rfl rfl) 0 (by decide) rfl rfl) 0 (by decide) rfl rfl) 0 (by decide) rfl rfl) 0 (by decide) rfl rfl) 0 (by decide) rfl rfl) 0 (by decide) rfl rfl) 2 (by decide) rfl rfl) 3 (by decide) rfl rfl)⟩
  · have e0 : σ 82 = S 68 := h.dd 0 (by decide)
    have e1 : σ 83 = S 69 := h.dd 1 (by decide)
    have e2 : σ 84 = S 70 := h.dd 2 (by decide)
    have e3 : σ 85 = S 71 := h.dd 3 (by decide)
    have e4 : σ 86 = S 72 := h.dd 4 (by decide)
    have e5 : σ 87 = S 73 := h.dd 5 (by decide)
    have e6 : σ 88 = S 74 := h.dd 6 (by decide)
    have e17 : σ 57 17 = S 57 17 := h.1 17 (by decide)
    have e14 : σ 57 14 = S 57 14 := h.1 14 (by decide)
    have e67 : σ 67 = S 67 := h.rw
    refine (kl82_clear f k).mono fun v σ1 q => ?_
    obtain ⟨rfl, rfl⟩ := q
    rw [e2, e3]
    exact ⟨rfl, (AG.dR hc (AG.dR hc (AG.d hc (AG.d hc (AG.d hc (AG.d hc (AG.d hc (AG.d hc (AG.d hc (AG.d hc (AG.d hc (AG.d hc h 0 (by decide) rfl rfl) 0 (by decide) rfl rfl) 0 (by decide) rfl rfl) 0 (by decide) rfl rfl) 0 (by decide) rfl rfl) 0 (by decide) rfl rfl) 0 (by decide) rfl rfl) 0 (by decide) rfl rfl) 0 (by decide) rfl rfl) 0 (by decide) rfl rfl) 2 (by decide) rfl rfl) 3 (by decide) rfl rfl)⟩
  · have e0 : σ 89 = S 68 := h.dd 0 (by decide)
    have e1 : σ 90 = S 69 := h.dd 1 (by decide)
    have e2 : σ 91 = S 70 := h.dd 2 (by decide)
    have e3 : σ 92 = S 71 := h.dd 3 (by decide)
    have e4 : σ 93 = S 72 := h.dd 4 (by decide)
    have e5 : σ 94 = S 73 := h.dd 5 (by decide)
    have e6 : σ 95 = S 74 := h.dd 6 (by decide)
    have e17 : σ 57 17 = S 57 17 := h.1 17 (by decide)
    have e14 : σ 57 14 = S 57 14 := h.1 14 (by decide)
    have e67 : σ 67 = S 67 := h.rw
    refine (kl89_clear f k).mono fun v σ1 q => ?_
    obtain ⟨rfl, rfl⟩ := q
    rw [e2, e3]
    exact ⟨rfl, (AG.dR hc (AG.dR hc (AG.d hc (AG.d hc (AG.d hc (AG.d hc (AG.d hc (AG.d hc (AG.d hc (AG.d hc (AG.d hc (AG.d hc h 0 (by decide) rfl rfl) 0 (by decide) rfl rfl) 0 (by decide) rfl rfl) 0 (by decide) rfl rfl) 0 (by decide) rfl rfl) 0 (by decide) rfl rfl) 0 (by decide) rfl rfl) 0 (by decide) rfl rfl) 0 (by decide) rfl rfl) 0 (by decide) rfl rfl) 2 (by decide) rfl rfl) 3 (by decide) rfl rfl)⟩
  · have e0 : σ 96 = S 68 := h.dd 0 (by decide)
    have e1 : σ 97 = S 69 := h.dd 1 (by decide)
    have e2 : σ 98 = S 70 := h.dd 2 (by decide)
    have e3 : σ 99 = S 71 := h.dd 3 (by decide)
    have e4 : σ 100 = S 72 := h.dd 4 (by decide)
    have e5 : σ 101 = S 73 := h.dd 5 (by decide)
    have e6 : σ 102 = S 74 := h.dd 6 (by decide)
    have e17 : σ 57 17 = S 57 17 := h.1 17 (by decide)
    have e14 : σ 57 14 = S 57 14 := h.1 14 (by decide)
    have e67 : σ 67 = S 67 := h.rw
    refine (kl96_clear f k).mono fun v σ1 q => ?_
    obtain ⟨rfl, rfl⟩ := q
    rw [e2, e3]
    exact ⟨rfl, (AG.dR hc (AG.dR hc (AG.d hc (AG.d hc (AG.d hc (AG.d hc (AG.d hc (AG.d hc (AG.d hc (AG.d hc (AG.d hc (AG.d hc h 0 (by decide) rfl rfl) 0 (by decide) rfl rfl) 0 (by decide) rfl rfl) 0 (by decide) rfl rfl) 0 (by decide) rfl rfl) 0 (by decide) rfl rfl) 0 (by decide) rfl rfl) 0 (by decide) rfl rfl) 0 (by decide) rfl rfl) 0 (by decide) rfl rfl) 2 (by decide) rfl rfl) 3 (by decide) rfl rfl)⟩
  · have e0 : σ 103 = S 68 := h.dd 0 (by decide)
    have e1 : σ 104 = S 69 := h.dd 1 (by decide)
    have e2 : σ 105 = S 70 := h.dd 2 (by decide)
    have e3 : σ 106 = S 71 := h.dd 3 (by decide)
    have e4 : σ 107 = S 72 := h.dd 4 (by decide)
    have e5 : σ 108 = S 73 := h.dd 5 (by decide)
    have e6 : σ 109 = S 74 := h.dd 6 (by decide)
    have e17 : σ 57 17 = S 57 17 := h.1 17 (by decide)
    have e14 : σ 57 14 = S 57 14 := h.1 14 (by decide)
    have e67 : σ 67 = S 67 := h.rw
    refine (kl103_clear f k).mono fun v σ1 q => ?_
    obtain ⟨rfl, rfl⟩ := q
    rw [e2, e3]
    exact ⟨rfl, (AG.dR hc (AG.dR hc (AG.d hc (AG.d hc (AG.d hc (AG.d hc (AG.d hc (AG.d hc (AG.d hc (AG.d hc (AG.d hc (AG.d hc h 0 (by decide) rfl rfl) 0 (by decide) rfl rfl) 0 (by decide) rfl rfl) 0 (by decide) rfl rfl) 0 (by decide) rfl rfl) 0 (by decide) rfl rfl) 0 (by decide) rfl rfl) 0 (by decide) rfl rfl) 0 (by decide) rfl rfl) 0 (by decide) rfl rfl) 2 (by decide) rfl rfl) 3 (by decide) rfl rfl)⟩
theorem kc_closeNots {c : Nat} {σ0 σ S : gH} (hc : isD c) (h : AG c σ0 σ S) (ht : 0 ≤ S 57 17 ∧ S 57 17 ≤ 64) (hs : 0 ≤ S 68 15 ∧ S 68 15 + S 57 17 ≤ 120) (hd : -1000 ≤ S 57 14 ∧ S 57 14 ≤ 1000) : Mt mX5_closeNots 1 [gR 57] σ (fun v σ' => v = gX 1 ∧ AG c σ0 σ' (CNS S)) := by
  have hcc := hc
  rcases hcc with rfl | rfl | rfl | rfl | rfl | rfl
  · have e0 : σ 68 = S 68 := h.dd 0 (by decide)
    have e1 : σ 69 = S 69 := h.dd 1 (by decide)
    have e2 : σ 70 = S 70 := h.dd 2 (by decide)
    have e3 : σ 71 = S 71 := h.dd 3 (by decide)
    have e4 : σ 72 = S 72 := h.dd 4 (by decide)
    have e5 : σ 73 = S 73 := h.dd 5 (by decide)
    have e6 : σ 74 = S 74 := h.dd 6 (by decide)
    have e17 : σ 57 17 = S 57 17 := h.1 17 (by decide)
    have e14 : σ 57 14 = S 57 14 := h.1 14 (by decide)
    have e67 : σ 67 = S 67 := h.rw
    refine (kl68_closeNots h.dr (by rw [e17]; exact ht) (by rw [e0, e17]; exact hs) (by rw [e14]; exact hd)).mono fun v σ1 q => ?_
    obtain ⟨m, rfl, hm, rfl⟩ := q
    rw [e67, e17] at hm
    have em := hm.one (ntF_at ht.1)
    subst em
    rw [e0, e4, e5, e6, e17, e14]
    exact ⟨rfl, (AG.u57 hc (AG.u57 hc (AG.u57 hc (AG.d hc (AG.dR hc (AG.dR hc (AG.dR hc h 4 (by decide) rfl rfl) 5 (by decide) rfl rfl) 6 (by decide) rfl rfl) 0 (by decide) rfl rfl) rfl) rfl) rfl)⟩
  · have e0 : σ 75 = S 68 := h.dd 0 (by decide)
    have e1 : σ 76 = S 69 := h.dd 1 (by decide)
    have e2 : σ 77 = S 70 := h.dd 2 (by decide)
    have e3 : σ 78 = S 71 := h.dd 3 (by decide)
    have e4 : σ 79 = S 72 := h.dd 4 (by decide)
    have e5 : σ 80 = S 73 := h.dd 5 (by decide)
    have e6 : σ 81 = S 74 := h.dd 6 (by decide)
    have e17 : σ 57 17 = S 57 17 := h.1 17 (by decide)
    have e14 : σ 57 14 = S 57 14 := h.1 14 (by decide)
    have e67 : σ 67 = S 67 := h.rw
    refine (kl75_closeNots h.dr (by rw [e17]; exact ht) (by rw [e0, e17]; exact hs) (by rw [e14]; exact hd)).mono fun v σ1 q => ?_
    obtain ⟨m, rfl, hm, rfl⟩ := q
    rw [e67, e17] at hm
    have em := hm.one (ntF_at ht.1)
    subst em
    rw [e0, e4, e5, e6, e17, e14]
    exact ⟨rfl, (AG.u57 hc (AG.u57 hc (AG.u57 hc (AG.d hc (AG.dR hc (AG.dR hc (AG.dR hc h 4 (by decide) rfl rfl) 5 (by decide) rfl rfl) 6 (by decide) rfl rfl) 0 (by decide) rfl rfl) rfl) rfl) rfl)⟩
  · have e0 : σ 82 = S 68 := h.dd 0 (by decide)
    have e1 : σ 83 = S 69 := h.dd 1 (by decide)
    have e2 : σ 84 = S 70 := h.dd 2 (by decide)
    have e3 : σ 85 = S 71 := h.dd 3 (by decide)
    have e4 : σ 86 = S 72 := h.dd 4 (by decide)
    have e5 : σ 87 = S 73 := h.dd 5 (by decide)
    have e6 : σ 88 = S 74 := h.dd 6 (by decide)
    have e17 : σ 57 17 = S 57 17 := h.1 17 (by decide)
    have e14 : σ 57 14 = S 57 14 := h.1 14 (by decide)
    have e67 : σ 67 = S 67 := h.rw
    refine (kl82_closeNots h.dr (by rw [e17]; exact ht) (by rw [e0, e17]; exact hs) (by rw [e14]; exact hd)).mono fun v σ1 q => ?_
    obtain ⟨m, rfl, hm, rfl⟩ := q
    rw [e67, e17] at hm
    have em := hm.one (ntF_at ht.1)
    subst em
    rw [e0, e4, e5, e6, e17, e14]
    exact ⟨rfl, (AG.u57 hc (AG.u57 hc (AG.u57 hc (AG.d hc (AG.dR hc (AG.dR hc (AG.dR hc h 4 (by decide) rfl rfl) 5 (by decide) rfl rfl) 6 (by decide) rfl rfl) 0 (by decide) rfl rfl) rfl) rfl) rfl)⟩
  · have e0 : σ 89 = S 68 := h.dd 0 (by decide)
    have e1 : σ 90 = S 69 := h.dd 1 (by decide)
    have e2 : σ 91 = S 70 := h.dd 2 (by decide)
    have e3 : σ 92 = S 71 := h.dd 3 (by decide)
    have e4 : σ 93 = S 72 := h.dd 4 (by decide)
    have e5 : σ 94 = S 73 := h.dd 5 (by decide)
    have e6 : σ 95 = S 74 := h.dd 6 (by decide)
    have e17 : σ 57 17 = S 57 17 := h.1 17 (by decide)
    have e14 : σ 57 14 = S 57 14 := h.1 14 (by decide)
    have e67 : σ 67 = S 67 := h.rw
    refine (kl89_closeNots h.dr (by rw [e17]; exact ht) (by rw [e0, e17]; exact hs) (by rw [e14]; exact hd)).mono fun v σ1 q => ?_
    obtain ⟨m, rfl, hm, rfl⟩ := q
    rw [e67, e17] at hm
    have em := hm.one (ntF_at ht.1)
    subst em
    rw [e0, e4, e5, e6, e17, e14]
    exact ⟨rfl, (AG.u57 hc (AG.u57 hc (AG.u57 hc (AG.d hc (AG.dR hc (AG.dR hc (AG.dR hc h 4 (by decide) rfl rfl) 5 (by decide) rfl rfl) 6 (by decide) rfl rfl) 0 (by decide) rfl rfl) rfl) rfl) rfl)⟩
  · have e0 : σ 96 = S 68 := h.dd 0 (by decide)
    have e1 : σ 97 = S 69 := h.dd 1 (by decide)
    have e2 : σ 98 = S 70 := h.dd 2 (by decide)
    have e3 : σ 99 = S 71 := h.dd 3 (by decide)
    have e4 : σ 100 = S 72 := h.dd 4 (by decide)
    have e5 : σ 101 = S 73 := h.dd 5 (by decide)
    have e6 : σ 102 = S 74 := h.dd 6 (by decide)
    have e17 : σ 57 17 = S 57 17 := h.1 17 (by decide)
    have e14 : σ 57 14 = S 57 14 := h.1 14 (by decide)
    have e67 : σ 67 = S 67 := h.rw
    refine (kl96_closeNots h.dr (by rw [e17]; exact ht) (by rw [e0, e17]; exact hs) (by rw [e14]; exact hd)).mono fun v σ1 q => ?_
    obtain ⟨m, rfl, hm, rfl⟩ := q
    rw [e67, e17] at hm
    have em := hm.one (ntF_at ht.1)
    subst em
    rw [e0, e4, e5, e6, e17, e14]
    exact ⟨rfl, (AG.u57 hc (AG.u57 hc (AG.u57 hc (AG.d hc (AG.dR hc (AG.dR hc (AG.dR hc h 4 (by decide) rfl rfl) 5 (by decide) rfl rfl) 6 (by decide) rfl rfl) 0 (by decide) rfl rfl) rfl) rfl) rfl)⟩
  · have e0 : σ 103 = S 68 := h.dd 0 (by decide)
    have e1 : σ 104 = S 69 := h.dd 1 (by decide)
    have e2 : σ 105 = S 70 := h.dd 2 (by decide)
    have e3 : σ 106 = S 71 := h.dd 3 (by decide)
    have e4 : σ 107 = S 72 := h.dd 4 (by decide)
    have e5 : σ 108 = S 73 := h.dd 5 (by decide)
    have e6 : σ 109 = S 74 := h.dd 6 (by decide)
    have e17 : σ 57 17 = S 57 17 := h.1 17 (by decide)
    have e14 : σ 57 14 = S 57 14 := h.1 14 (by decide)
    have e67 : σ 67 = S 67 := h.rw
    refine (kl103_closeNots h.dr (by rw [e17]; exact ht) (by rw [e0, e17]; exact hs) (by rw [e14]; exact hd)).mono fun v σ1 q => ?_
    obtain ⟨m, rfl, hm, rfl⟩ := q
    rw [e67, e17] at hm
    have em := hm.one (ntF_at ht.1)
    subst em
    rw [e0, e4, e5, e6, e17, e14]
    exact ⟨rfl, (AG.u57 hc (AG.u57 hc (AG.u57 hc (AG.d hc (AG.dR hc (AG.dR hc (AG.dR hc h 4 (by decide) rfl rfl) 5 (by decide) rfl rfl) 6 (by decide) rfl rfl) 0 (by decide) rfl rfl) rfl) rfl) rfl)⟩
theorem kc_closeLinks {c : Nat} {σ0 σ S : gH} (hc : isD c) (h : AG c σ0 σ S) (w : Int) (hw : 0 ≤ w) (ht : 0 ≤ S 57 17 ∧ S 57 17 ≤ 64) (hs : 0 ≤ S 68 15 ∧ S 68 15 + S 57 17 ≤ 120) : Mt mX5_closeLinks 1 [gR 57, gI w] σ (fun v σ' => v = gX 1 ∧ AG c σ0 σ' (CLS S w)) := by
  have hcc := hc
  rcases hcc with rfl | rfl | rfl | rfl | rfl | rfl
  · have e0 : σ 68 = S 68 := h.dd 0 (by decide)
    have e1 : σ 69 = S 69 := h.dd 1 (by decide)
    have e2 : σ 70 = S 70 := h.dd 2 (by decide)
    have e3 : σ 71 = S 71 := h.dd 3 (by decide)
    have e4 : σ 72 = S 72 := h.dd 4 (by decide)
    have e5 : σ 73 = S 73 := h.dd 5 (by decide)
    have e6 : σ 74 = S 74 := h.dd 6 (by decide)
    have e17 : σ 57 17 = S 57 17 := h.1 17 (by decide)
    have e14 : σ 57 14 = S 57 14 := h.1 14 (by decide)
    have e67 : σ 67 = S 67 := h.rw
    refine (kl68_closeLinks h.dr w hw (by rw [e17]; exact ht) (by rw [e0, e17]; exact hs)).mono fun v σ1 q => ?_
    obtain ⟨m, rfl, hm, rfl⟩ := q
    rw [e67, e17] at hm
    have em := hm.one (lkF_at ht.1)
    subst em
    rw [e0, e4, e5, e6, e17, e67]
    exact ⟨rfl, (AG.u57 hc (AG.d hc (AG.dR hc (AG.dR hc (AG.dR hc h 4 (by decide) rfl rfl) 5 (by decide) rfl rfl) 6 (by decide) rfl rfl) 0 (by decide) rfl rfl) rfl)⟩
  · have e0 : σ 75 = S 68 := h.dd 0 (by decide)
    have e1 : σ 76 = S 69 := h.dd 1 (by decide)
    have e2 : σ 77 = S 70 := h.dd 2 (by decide)
    have e3 : σ 78 = S 71 := h.dd 3 (by decide)
    have e4 : σ 79 = S 72 := h.dd 4 (by decide)
    have e5 : σ 80 = S 73 := h.dd 5 (by decide)
    have e6 : σ 81 = S 74 := h.dd 6 (by decide)
    have e17 : σ 57 17 = S 57 17 := h.1 17 (by decide)
    have e14 : σ 57 14 = S 57 14 := h.1 14 (by decide)
    have e67 : σ 67 = S 67 := h.rw
    refine (kl75_closeLinks h.dr w hw (by rw [e17]; exact ht) (by rw [e0, e17]; exact hs)).mono fun v σ1 q => ?_
    obtain ⟨m, rfl, hm, rfl⟩ := q
    rw [e67, e17] at hm
    have em := hm.one (lkF_at ht.1)
    subst em
    rw [e0, e4, e5, e6, e17, e67]
    exact ⟨rfl, (AG.u57 hc (AG.d hc (AG.dR hc (AG.dR hc (AG.dR hc h 4 (by decide) rfl rfl) 5 (by decide) rfl rfl) 6 (by decide) rfl rfl) 0 (by decide) rfl rfl) rfl)⟩
  · have e0 : σ 82 = S 68 := h.dd 0 (by decide)
    have e1 : σ 83 = S 69 := h.dd 1 (by decide)
    have e2 : σ 84 = S 70 := h.dd 2 (by decide)
    have e3 : σ 85 = S 71 := h.dd 3 (by decide)
    have e4 : σ 86 = S 72 := h.dd 4 (by decide)
    have e5 : σ 87 = S 73 := h.dd 5 (by decide)
    have e6 : σ 88 = S 74 := h.dd 6 (by decide)
    have e17 : σ 57 17 = S 57 17 := h.1 17 (by decide)
    have e14 : σ 57 14 = S 57 14 := h.1 14 (by decide)
    have e67 : σ 67 = S 67 := h.rw
    refine (kl82_closeLinks h.dr w hw (by rw [e17]; exact ht) (by rw [e0, e17]; exact hs)).mono fun v σ1 q => ?_
    obtain ⟨m, rfl, hm, rfl⟩ := q
    rw [e67, e17] at hm
    have em := hm.one (lkF_at ht.1)
    subst em
    rw [e0, e4, e5, e6, e17, e67]
    exact ⟨rfl, (AG.u57 hc (AG.d hc (AG.dR hc (AG.dR hc (AG.dR hc h 4 (by decide) rfl rfl) 5 (by decide) rfl rfl) 6 (by decide) rfl rfl) 0 (by decide) rfl rfl) rfl)⟩
  · have e0 : σ 89 = S 68 := h.dd 0 (by decide)
    have e1 : σ 90 = S 69 := h.dd 1 (by decide)
    have e2 : σ 91 = S 70 := h.dd 2 (by decide)
    have e3 : σ 92 = S 71 := h.dd 3 (by decide)
    have e4 : σ 93 = S 72 := h.dd 4 (by decide)
    have e5 : σ 94 = S 73 := h.dd 5 (by decide)
    have e6 : σ 95 = S 74 := h.dd 6 (by decide)
    have e17 : σ 57 17 = S 57 17 := h.1 17 (by decide)
    have e14 : σ 57 14 = S 57 14 := h.1 14 (by decide)
    have e67 : σ 67 = S 67 := h.rw
    refine (kl89_closeLinks h.dr w hw (by rw [e17]; exact ht) (by rw [e0, e17]; exact hs)).mono fun v σ1 q => ?_
    obtain ⟨m, rfl, hm, rfl⟩ := q
    rw [e67, e17] at hm
    have em := hm.one (lkF_at ht.1)
    subst em
    rw [e0, e4, e5, e6, e17, e67]
    exact ⟨rfl, (AG.u57 hc (AG.d hc (AG.dR hc (AG.dR hc (AG.dR hc h 4 (by decide) rfl rfl) 5 (by decide) rfl rfl) 6 (by decide) rfl rfl) 0 (by decide) rfl rfl) rfl)⟩
  · have e0 : σ 96 = S 68 := h.dd 0 (by decide)
    have e1 : σ 97 = S 69 := h.dd 1 (by decide)
    have e2 : σ 98 = S 70 := h.dd 2 (by decide)
    have e3 : σ 99 = S 71 := h.dd 3 (by decide)
    have e4 : σ 100 = S 72 := h.dd 4 (by decide)
    have e5 : σ 101 = S 73 := h.dd 5 (by decide)
    have e6 : σ 102 = S 74 := h.dd 6 (by decide)
    have e17 : σ 57 17 = S 57 17 := h.1 17 (by decide)
    have e14 : σ 57 14 = S 57 14 := h.1 14 (by decide)
    have e67 : σ 67 = S 67 := h.rw
    refine (kl96_closeLinks h.dr w hw (by rw [e17]; exact ht) (by rw [e0, e17]; exact hs)).mono fun v σ1 q => ?_
    obtain ⟨m, rfl, hm, rfl⟩ := q
    rw [e67, e17] at hm
    have em := hm.one (lkF_at ht.1)
    subst em
    rw [e0, e4, e5, e6, e17, e67]
    exact ⟨rfl, (AG.u57 hc (AG.d hc (AG.dR hc (AG.dR hc (AG.dR hc h 4 (by decide) rfl rfl) 5 (by decide) rfl rfl) 6 (by decide) rfl rfl) 0 (by decide) rfl rfl) rfl)⟩
  · have e0 : σ 103 = S 68 := h.dd 0 (by decide)
    have e1 : σ 104 = S 69 := h.dd 1 (by decide)
    have e2 : σ 105 = S 70 := h.dd 2 (by decide)
    have e3 : σ 106 = S 71 := h.dd 3 (by decide)
    have e4 : σ 107 = S 72 := h.dd 4 (by decide)
    have e5 : σ 108 = S 73 := h.dd 5 (by decide)
    have e6 : σ 109 = S 74 := h.dd 6 (by decide)
    have e17 : σ 57 17 = S 57 17 := h.1 17 (by decide)
    have e14 : σ 57 14 = S 57 14 := h.1 14 (by decide)
    have e67 : σ 67 = S 67 := h.rw
    refine (kl103_closeLinks h.dr w hw (by rw [e17]; exact ht) (by rw [e0, e17]; exact hs)).mono fun v σ1 q => ?_
    obtain ⟨m, rfl, hm, rfl⟩ := q
    rw [e67, e17] at hm
    have em := hm.one (lkF_at ht.1)
    subst em
    rw [e0, e4, e5, e6, e17, e67]
    exact ⟨rfl, (AG.u57 hc (AG.d hc (AG.dR hc (AG.dR hc (AG.dR hc h 4 (by decide) rfl rfl) 5 (by decide) rfl rfl) 6 (by decide) rfl rfl) 0 (by decide) rfl rfl) rfl)⟩
