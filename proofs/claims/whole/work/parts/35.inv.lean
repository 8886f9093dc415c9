/-! sums over rows; masks of the store; the invariant of both systems -/
def sumI (f : Int → Int) : Nat → Int
  | 0 => 0
  | n + 1 => sumI f n + f n
theorem sumI_s {f : Int → Int} {i : Int} (h : 0 ≤ i) : sumI f (i + 1).toNat = sumI f i.toNat + f i := by
  have e : (i + 1).toNat = i.toNat + 1 := by omega
  have e2 : ((i.toNat : Nat) : Int) = i := Int.toNat_of_nonneg h
  rw [e]
  show sumI f i.toNat + f (i.toNat : Int) = _
  rw [e2]
theorem sumI_congr {f g : Int → Int} : ∀ {n : Nat}, (∀ i : Int, 0 ≤ i → i < n → f i = g i) → sumI f n = sumI g n
  | 0, _ => rfl
  | n + 1, h => by
    show sumI f n + f n = sumI g n + g n
    rw [sumI_congr (fun i h0 h1 => h i h0 (by omega)), h n (by omega) (by omega)]
theorem sumI_le {f g : Int → Int} : ∀ {n : Nat}, (∀ i : Int, 0 ≤ i → i < n → f i ≤ g i) → sumI f n ≤ sumI g n
  | 0, _ => Int.le_refl _
  | n + 1, h => by
    show sumI f n + f n ≤ sumI g n + g n
    have h1 := sumI_le (f := f) (g := g) (n := n) (fun i h0 h1 => h i h0 (by omega))
    have h2 := h n (by omega) (by omega)
    omega
theorem sumI_zero : ∀ (n : Nat), sumI (fun _ => 0) n = 0
  | 0 => rfl
  | n + 1 => by
    show sumI (fun _ => 0) n + 0 = 0
    rw [sumI_zero n]; rfl
theorem sumI_nonneg {f : Int → Int} {n : Nat} (h : ∀ i : Int, 0 ≤ i → i < n → 0 ≤ f i) : 0 ≤ sumI f n := by
  have h1 := sumI_le (f := fun _ => 0) (g := f) (n := n) h
  rw [sumI_zero] at h1
  exact h1
theorem sumI_add {f g : Int → Int} : ∀ {n : Nat}, sumI (fun i => f i + g i) n = sumI f n + sumI g n
  | 0 => rfl
  | n + 1 => by
    show sumI (fun i => f i + g i) n + (f n + g n) = (sumI f n + f n) + (sumI g n + g n)
    rw [sumI_add (n := n)]
    omega
theorem sumI_mul {f : Int → Int} {c : Int} : ∀ {n : Nat}, sumI (fun i => c * f i) n = c * sumI f n
  | 0 => (Int.mul_zero c).symm
  | n + 1 => by
    show sumI (fun i => c * f i) n + c * f n = c * (sumI f n + f n)
    rw [sumI_mul (n := n), Int.mul_add]
theorem sumI_swap {f : Int → Int → Int} {m : Nat} : ∀ {n : Nat}, sumI (fun i => sumI (fun j => f i j) m) n = sumI (fun j => sumI (fun i => f i j) n) m
  | 0 => (sumI_zero m).symm
  | n + 1 => by
    show sumI (fun i => sumI (fun j => f i j) m) n + sumI (fun j => f n j) m = sumI (fun j => sumI (fun i => f i j) n + f n j) m
    rw [sumI_swap (n := n), sumI_add]
/-- the sum of one place alone -/
theorem sumI_one {f : Int → Int} {k : Int} : ∀ {n : Nat}, 0 ≤ k → k < n → (∀ i : Int, 0 ≤ i → i < n → i ≠ k → f i = 0) → sumI f n = f k
  | 0, h0, h1, _ => by omega
  | n + 1, h0, h1, h => by
    show sumI f n + f n = f k
    by_cases e : k = n
    · have h2 : sumI f n = sumI (fun _ => 0) n := sumI_congr fun i a b => h i a (by omega) (by omega)
      rw [h2, sumI_zero, e]; omega
    · rw [sumI_one (n := n) h0 (by omega) (fun i a b c => h i a (by omega) c), h n (by omega) (by omega) (by omega)]; omega
/-- one place is no more than the sum -/
theorem sumI_ge {f : Int → Int} {k : Int} {n : Nat} (h0 : 0 ≤ k) (h1 : k < n) (h : ∀ i : Int, 0 ≤ i → i < n → 0 ≤ f i) : f k ≤ sumI f n := by
  have h2 : sumI (fun i => if i = k then f k else 0) n = f k := by
    rw [sumI_one (k := k) h0 h1 (fun i _ _ c => if_neg c), if_pos rfl]
  rw [← h2]
  refine sumI_le fun i a b => ?_
  by_cases e : i = k
  · rw [if_pos e, e]; exact Int.le_refl _
  · rw [if_neg e]; exact h i a b
def updI (f : Int → Int) (i v : Int) : Int → Int := fun j => if j = i then v else f j
theorem updI_eq {f : Int → Int} {i v : Int} : updI f i v i = v := if_pos rfl
theorem updI_ne {f : Int → Int} {i v j : Int} (h : j ≠ i) : updI f i v j = f j := if_neg h
/-- a fact of a register that is known as of t and lasts on day d -/
abbrev liv (kn fr un : Int → Int) (d t i : Int) : Prop := kn i ≤ t ∧ fr i ≤ d ∧ (un i = -1 ∨ d < un i)
/-! degrees -/
def dgR (f : Int → Int) (near other n : Int) : Int → Int := if f near = n - 1 ∧ f other = 5 then updI f other n else f
def dgI (a b kn fr un : Int → Int) (d t n : Int) (f : Int → Int) : Nat → Int → Int
  | 0 => f
  | i + 1 => if liv kn fr un d t i then dgR (dgR (dgI a b kn fr un d t n f i) (a i) (b i) n) (b i) (a i) n else dgI a b kn fr un d t n f i
def dgN (m : Int) (a b kn fr un : Int → Int) (x d t : Int) : Nat → Int → Int
  | 0 => updI (fun _ => 5) x 0
  | n + 1 => dgI a b kn fr un d t (n + 1) (dgN m a b kn fr un x d t n) m.toNat
def DG (σ : gH) (x d t y : Int) : Int := dgN (σ 6 6) (σ 7) (σ 8) (σ 12) (σ 10) (σ 11) x d t 4 y
/-! parts, and who controls whom -/
def aF (n : Int) (ow oo pa fr un kn : Int → Int) (d t x f : Int) : Int := sumI (fun i => if ow i = x ∧ oo i = f ∧ liv kn fr un d t i then pa i else 0) n.toNat
def AR (σ : gH) (d t : Int) : Int → Int → Int := aF (σ 15 6) (σ 16) (σ 17) (σ 18) (σ 19) (σ 20) (σ 21) d t
def ctlC (A : Int → Int → Int) (x : Int) (S : Int → Bool) : Prop := ∀ f, 0 ≤ f → f < 60 → f ≠ x → 5000 < A x f + sumI (fun c => if S c = true then A c f else 0) 60 → S f = true
def Ctl (A : Int → Int → Int) (x f : Int) : Prop := 0 ≤ f ∧ f < 60 ∧ f ≠ x ∧ ∀ S : Int → Bool, ctlC A x S → S f = true
noncomputable def ctl (A : Int → Int → Int) (x f : Int) : Bool := @decide (Ctl A x f) (Classical.propDecidable _)
noncomputable def rul (A : Int → Int → Int) (y : Int) : Bool := @decide (∃ z, 0 ≤ z ∧ z < 60 ∧ Ctl A z y) (Classical.propDecidable _)
def hdL (C R : Int → Bool) : Nat → Int → Int → Int
  | 0, _, l => l
  | n + 1, y, l => if C y = true then (if R y = true then hdL C R n (y + 1) (if y < l then y else l) else y) else hdL C R n (y + 1) l
noncomputable def HD (A : Int → Int → Int) (x : Int) : Int := hdL (fun y => ctl A y x) (rul A) 60 0 x
/-- a day's arrows: where those of x begin, whom they reach, with what part -/
def ARW (S T P : Int → Int) (A : Int → Int → Int) : Prop := S 0 = 0 ∧ (∀ x, 0 ≤ x → x < 60 → 0 ≤ S x ∧ S x ≤ S (x + 1) ∧ S (x + 1) ≤ 200) ∧
  (∀ x, 0 ≤ x → x < 60 → ∀ k, S x ≤ k → k < S (x + 1) → 0 ≤ T k ∧ T k < 60 ∧ P k = A x (T k) ∧ 0 < P k ∧ ∀ j, S x ≤ j → j < k → T j < T k) ∧
  ∀ x f, 0 ≤ x → x < 60 → 0 ≤ f → f < 60 → A x f ≠ 0 → ∃ k, S x ≤ k ∧ k < S (x + 1) ∧ T k = f
/-! the laws: the class's row at cell c, the reference's under number l -/
def rnM (m : Int) : Int := if m = 5 then 6 else if m = 6 then 7 else if m = 7 then 8 else if m = 8 then 5 else if m = 14 then 20 else if m = 15 then 21 else if m = 16 then 22 else m
abbrev isMeas (m : Int) : Prop := m = 6 ∨ m = 7 ∨ m = 9 ∨ m = 10 ∨ m = 12 ∨ m = 13
/-- how many answers stand open behind so many marks; NONE if some mark lacked its own -/
def htM (mk : Int → Int) : Nat → Int
  | 0 => 0
  | k + 1 => if htM mk k < 0 then -1 else if mk k = 14 then (if 1 ≤ htM mk k then htM mk k else -1) else if mk k = 15 ∨ mk k = 16 then (if 2 ≤ htM mk k then htM mk k - 1 else -1) else htM mk k + 1
abbrev isAtm (r m : Int) : Prop := if r < 8 then 0 ≤ m ∧ m ≤ 10 else 8 ≤ m ∧ m ≤ 13
def rulR (b e sz : Int) (mk sg nu : Int → Int) (F T : Int) (pc ps pn : Int → Int) (r : Int) : Prop :=
  (b = e ∧ F = -1) ∨ (0 ≤ b ∧ b < e ∧ e ≤ sz ∧ 0 ≤ F ∧ T - F = e - b ∧ T ≤ 200 ∧ htM (fun k => mk (b + k)) (e - b).toNat = 1 ∧ (∀ k : Nat, (k : Int) ≤ e - b → htM (fun k => mk (b + k)) k ≤ 64) ∧
    ∀ k, 0 ≤ k → k < e - b → (isAtm r (mk (b + k)) ∨ mk (b + k) = 14 ∨ mk (b + k) = 15 ∨ mk (b + k) = 16) ∧ pc (F + k) = rnM (mk (b + k)) ∧
      (isMeas (mk (b + k)) → (sg (b + k) = 60 ∨ sg (b + k) = 61 ∨ sg (b + k) = 62) ∧ ps (F + k) = sg (b + k) ∧ pn (F + k) = nu (b + k)) ∧ (¬ isMeas (mk (b + k)) → sg (b + k) = 0))
def lawR (σ : gH) (c l : Nat) : Prop := σ 173 l = σ c 1 ∧ σ 174 l = σ c 0 ∧ isDy (σ c 1) ∧ isDy (σ c 0) ∧ σ 175 l = σ c 3 ∧ 0 ≤ σ c 3 ∧ σ c 3 ≤ 8 ∧ (∀ k, 0 ≤ k → k < σ c 3 → σ 176 (8 * l + k) = σ (c + 1) k ∧ 0 ≤ σ (c + 1) k ∧ σ (c + 1) k ≤ 999) ∧
  (σ 177 (5 * l) = σ c 4 ∧ 0 ≤ σ c 4 ∧ σ c 4 ≤ 4) ∧ (σ 177 (5 * l + 1) = σ c 5 ∧ 1 ≤ σ c 5 ∧ σ c 5 ≤ 999) ∧ (σ 177 (5 * l + 2) = σ c 6 ∧ 0 ≤ σ c 6 ∧ σ c 6 ≤ 3650) ∧ (σ 177 (5 * l + 3) = σ c 7 ∧ 1 ≤ σ c 7 ∧ σ c 7 ≤ 999) ∧ (σ 177 (5 * l + 4) = σ c 8 ∧ 0 ≤ σ c 8 ∧ σ c 8 ≤ 12) ∧
  0 ≤ σ c 15 ∧ σ c 15 ≤ 120 ∧ ∀ r, 0 ≤ r → r < 10 → rulR (σ (c + 2) r) (σ (c + 3) r) (σ c 15) (σ (c + 4)) (σ (c + 5)) (σ (c + 6)) (σ 178 (10 * l + r)) (σ 179 (10 * l + r)) (fun k => σ 180 (200 * l + k)) (fun k => σ 181 (200 * l + k)) (fun k => σ 182 (200 * l + k)) r
/-- the law that none told -/
def S_emp (σ : gH) : Prop := σ 59 0 = 0 ∧ σ 59 1 = 0 ∧ σ 59 3 = 0 ∧ σ 59 4 = 1 ∧ σ 59 5 = 365 ∧ σ 59 6 = 365 ∧ σ 59 7 = 90 ∧ σ 59 8 = 0 ∧ σ 59 15 = 0 ∧ (∀ r, σ 61 r = 0 ∧ σ 62 r = 0) ∧
  σ 183 0 = 1 ∧ σ 183 1 = 365 ∧ σ 183 2 = 365 ∧ σ 183 3 = 90 ∧ σ 183 4 = 0 ∧ σ 184 0 = 0 ∧ σ 184 1 = 1 ∧ σ 184 2 = 0 ∧ σ 184 3 = 1 ∧ σ 184 4 = 0 ∧ σ 185 0 = 4 ∧ σ 185 1 = 999 ∧ σ 185 2 = 3650 ∧ σ 185 3 = 999 ∧ σ 185 4 = 12
def S_law (σ : gH) : Prop := σ 133 77 = σ 57 2 ∧ 0 ≤ σ 57 2 ∧ σ 57 2 ≤ 6 ∧ σ 133 60 = σ 57 3 ∧ ((0 < σ 57 2 → lawR σ 68 0) ∧ (1 < σ 57 2 → lawR σ 75 1) ∧ (2 < σ 57 2 → lawR σ 82 2) ∧ (3 < σ 57 2 → lawR σ 89 3) ∧ (4 < σ 57 2 → lawR σ 96 4) ∧ (5 < σ 57 2 → lawR σ 103 5)) ∧ S_emp σ
/-! owners: the order of the rows, and no more than the whole on any day -/
def S_ord (σ : gH) : Prop := (∀ i, 0 ≤ i → i < σ 15 6 → 0 ≤ σ 22 i ∧ σ 22 i < σ 15 6) ∧ (∀ g : Int → Int, sumI (fun i => g (σ 22 i)) (σ 15 6).toNat = sumI g (σ 15 6).toNat) ∧
  (∀ i, 0 ≤ i → i + 1 < σ 15 6 → σ 16 (σ 22 i) < σ 16 (σ 22 (i + 1)) ∨ (σ 16 (σ 22 i) = σ 16 (σ 22 (i + 1)) ∧ σ 17 (σ 22 i) ≤ σ 17 (σ 22 (i + 1)))) ∧
  ∀ f d, sumI (fun i => if σ 17 i = f ∧ σ 19 i ≤ d ∧ (σ 20 i = -1 ∨ d < σ 20 i) then σ 18 i else 0) (σ 15 6).toNat ≤ 10000
/-! what is kept between calls, though it is no fact -/
def C_deg (σ : gH) : Prop := σ 3 8 ≤ σ 6 6 ∧ (0 ≤ σ 3 5 → σ 3 8 = σ 6 6 → ∀ y, 0 ≤ y → y < 60 → σ 13 y = DG σ (σ 3 5) (σ 3 6) (σ 3 7) y)
def C_arr (σ : gH) : Prop := σ 14 7 ≤ σ 15 6 ∧ (σ 14 7 = σ 15 6 → ARW (σ 23) (σ 24) (σ 25) (AR σ (σ 14 5) (σ 14 6)) ∧ (σ 14 12 ≠ 0 → ∀ x, 0 ≤ x → x < 60 → σ 26 x = HD (AR σ (σ 14 5) (σ 14 6)) x))
def C_mod (σ : gH) : Prop := σ 133 7 = 1 + σ 133 6 + σ 133 14 ∧ σ 133 49 ≤ σ 133 7 ∧ (σ 133 49 = σ 133 7 → ∀ x, 0 ≤ x → x < 60 → (∀ f, 0 ≤ f → f < 60 → σ 168 (60 * x + f) = AR σ (σ 133 47) (σ 133 48) x f ∧ σ 170 (60 * x + f) = if ctl (AR σ (σ 133 47) (σ 133 48)) x f = true then 1 else 0) ∧ (x < σ 133 6 → σ 169 x = HD (AR σ (σ 133 47) (σ 133 48)) x))
def Facts (σ : gH) : Prop := S_day σ ∧ S_tape σ ∧ S_out σ ∧ S_party σ ∧ S_own σ ∧ S_kin σ ∧ S_post σ ∧ S_gift σ ∧ S_worth σ ∧ S_mem σ ∧ S_mat σ ∧ S_vote σ ∧ S_ent σ
theorem Facts.day {σ : gH} (h : Facts σ) : S_day σ := h.1
theorem Facts.tape {σ : gH} (h : Facts σ) : S_tape σ := h.2.1
theorem Facts.outs {σ : gH} (h : Facts σ) : S_out σ := h.2.2.1
theorem Facts.party {σ : gH} (h : Facts σ) : S_party σ := h.2.2.2.1
theorem Facts.own {σ : gH} (h : Facts σ) : S_own σ := h.2.2.2.2.1
theorem Facts.kin {σ : gH} (h : Facts σ) : S_kin σ := h.2.2.2.2.2.1
theorem Facts.post {σ : gH} (h : Facts σ) : S_post σ := h.2.2.2.2.2.2.1
theorem Facts.gift {σ : gH} (h : Facts σ) : S_gift σ := h.2.2.2.2.2.2.2.1
theorem Facts.worth {σ : gH} (h : Facts σ) : S_worth σ := h.2.2.2.2.2.2.2.2.1
theorem Facts.mem {σ : gH} (h : Facts σ) : S_mem σ := h.2.2.2.2.2.2.2.2.2.1
theorem Facts.mat {σ : gH} (h : Facts σ) : S_mat σ := h.2.2.2.2.2.2.2.2.2.2.1
theorem Facts.vote {σ : gH} (h : Facts σ) : S_vote σ := h.2.2.2.2.2.2.2.2.2.2.2.1
theorem Facts.ent {σ : gH} (h : Facts σ) : S_ent σ := h.2.2.2.2.2.2.2.2.2.2.2.2
theorem Facts.hz {σ : gH} (h : Facts σ) : 0 ≤ σ 41 11 ∧ σ 41 11 ≤ 120 ∧ 0 ≤ σ 41 16 ∧ σ 41 16 ≤ 200 := ⟨h.gift.2.1, h.gift.2.2.1, h.worth.2.1, h.worth.2.2.1⟩
theorem Facts.hm {σ : gH} (h : Facts σ) : 0 ≤ σ 133 42 ∧ σ 133 42 ≤ 120 ∧ 0 ≤ σ 133 43 ∧ σ 133 43 ≤ 200 := by
  have a := h.gift.1
  have b := h.worth.1
  have c := h.hz
  omega
theorem Facts.hp {σ : gH} (h : Facts σ) : σ 3 2 ≤ 60 := h.party.2.2.1
theorem Facts.hq {σ : gH} (h : Facts σ) : σ 133 6 ≤ 60 := by
  have a := h.party.1
  have b := h.hp
  omega
/-- all that calls tell and rest on later -/
def FA (σ : gH) : Prop := Facts σ ∧ S_law σ ∧ S_ord σ
def CC (σ : gH) : Prop := C_deg σ ∧ C_arr σ
def Inv (σ : gH) : Prop := FA σ ∧ CC σ ∧ C_mod σ
theorem Inv.f {σ : gH} (h : Inv σ) : Facts σ := h.1.1
theorem Inv.law {σ : gH} (h : Inv σ) : S_law σ := h.1.2.1
theorem Inv.ord {σ : gH} (h : Inv σ) : S_ord σ := h.1.2.2
theorem Inv.deg {σ : gH} (h : Inv σ) : C_deg σ := h.2.1.1
theorem Inv.arr {σ : gH} (h : Inv σ) : C_arr σ := h.2.1.2
theorem Inv.mod {σ : gH} (h : Inv σ) : C_mod σ := h.2.2
theorem FA.thrown {σ : gH} (h : FA σ) : FA (gUp σ 133 0 0) := ⟨⟨h.1.day, h.1.tape, h.1.outs, h.1.party, h.1.own, h.1.kin, h.1.post, h.1.gift, h.1.worth, h.1.mem, h.1.mat, h.1.vote, h.1.ent⟩, h.2.1, h.2.2⟩
theorem Inv.thrown {σ : gH} (h : Inv σ) : Inv (gUp σ 133 0 0) := ⟨h.1.thrown, h.2.1, h.2.2⟩
/-! masks: places that hold facts -/
def nfC : List Nat := [13, 14, 23, 24, 25, 26, 27, 28, 29, 30, 31, 32, 33, 66, 67, 110, 111, 118, 119, 120, 121, 122, 123, 124, 168, 169, 170, 172, 186, 187, 188, 197, 198, 199, 200, 201, 202, 207, 208]
def fM : List Int := [2, 3, 6, 7, 14, 25, 26, 42, 43, 51, 60, 77, 92, 93, 99, 110]
def isF (k : Nat) (i : Int) : Bool := if k = 133 then fM.contains i else if k = 3 then decide (i < 5) else if k = 57 then decide (i < 4) else if k = 112 then decide (i < 9) else !nfC.contains k
def hm (σ : gH) : gH := fun k i => if 133 ≤ k ∨ isF k i = true then σ k i else 0
def lm (σ : gH) : gH := fun k i => if k < 133 ∨ isF k i = true then σ k i else 0
theorem hm_rd {σ σ' : gH} (h : hm σ' = hm σ) {k : Nat} {i : Int} (hk : 133 ≤ k ∨ isF k i = true) : σ' k i = σ k i := by
  have e := congrFun (congrFun h k) i
  unfold hm at e
  rw [if_pos hk, if_pos hk] at e
  exact e
theorem lm_rd {σ σ' : gH} (h : lm σ' = lm σ) {k : Nat} {i : Int} (hk : k < 133 ∨ isF k i = true) : σ' k i = σ k i := by
  have e := congrFun (congrFun h k) i
  unfold lm at e
  rw [if_pos hk, if_pos hk] at e
  exact e
theorem hm_up {σ : gH} {k : Nat} {i v : Int} (hk : ¬ (133 ≤ k ∨ isF k i = true)) : hm (gUp σ k i v) = hm σ := by
  funext q j
  show (if 133 ≤ q ∨ isF q j = true then (if q = k then (fun j => if j = i then v else σ k j) else σ q) j else 0) = if 133 ≤ q ∨ isF q j = true then σ q j else 0
  by_cases e : q = k
  · subst e
    rw [if_pos rfl]
    by_cases e2 : j = i
    · subst e2
      rw [if_neg hk, if_neg hk]
    · show (if _ then (if j = i then v else σ q j) else 0) = _
      rw [if_neg e2]
  · rw [if_neg e]
theorem lm_up {σ : gH} {k : Nat} {i v : Int} (hk : ¬ (k < 133 ∨ isF k i = true)) : lm (gUp σ k i v) = lm σ := by
  funext q j
  show (if q < 133 ∨ isF q j = true then (if q = k then (fun j => if j = i then v else σ k j) else σ q) j else 0) = if q < 133 ∨ isF q j = true then σ q j else 0
  by_cases e : q = k
  · subst e
    rw [if_pos rfl]
    by_cases e2 : j = i
    · subst e2
      rw [if_neg hk, if_neg hk]
    · show (if _ then (if j = i then v else σ q j) else 0) = _
      rw [if_neg e2]
  · rw [if_neg e]
theorem hm_ur {σ : gH} {k : Nat} {f : Int → Int} (hk : ∀ i, ¬ (133 ≤ k ∨ isF k i = true)) : hm (gUr σ k f) = hm σ := by
  funext q j
  show (if 133 ≤ q ∨ isF q j = true then (if q = k then f else σ q) j else 0) = if 133 ≤ q ∨ isF q j = true then σ q j else 0
  by_cases e : q = k
  · subst e
    rw [if_neg (hk j), if_neg (hk j)]
  · rw [if_neg e]
theorem lm_ur {σ : gH} {k : Nat} {f : Int → Int} (hk : ∀ i, ¬ (k < 133 ∨ isF k i = true)) : lm (gUr σ k f) = lm σ := by
  funext q j
  show (if q < 133 ∨ isF q j = true then (if q = k then f else σ q) j else 0) = if q < 133 ∨ isF q j = true then σ q j else 0
  by_cases e : q = k
  · subst e
    rw [if_neg (hk j), if_neg (hk j)]
  · rw [if_neg e]
theorem hm_nfC (k : Nat) (h : (nfC.contains k && decide (k < 133)) = true) : ∀ i, ¬ (133 ≤ k ∨ isF k i = true) := by
  intro i hh
  have h1 : nfC.contains k = true := (Bool.and_eq_true_iff.mp h).1
  have h2 : k < 133 := of_decide_eq_true (Bool.and_eq_true_iff.mp h).2
  rcases hh with hh | hh
  · omega
  · have a3 : k ≠ 3 := fun e => by subst e; exact absurd h1 (by decide)
    have a57 : k ≠ 57 := fun e => by subst e; exact absurd h1 (by decide)
    have a112 : k ≠ 112 := fun e => by subst e; exact absurd h1 (by decide)
    unfold isF at hh
    rw [if_neg (by omega), if_neg a3, if_neg a57, if_neg a112, h1] at hh
    cases hh
theorem lm_nfC (k : Nat) (h : (nfC.contains k && decide (133 < k)) = true) : ∀ i, ¬ (k < 133 ∨ isF k i = true) := by
  intro i hh
  have h1 : nfC.contains k = true := (Bool.and_eq_true_iff.mp h).1
  have h2 : 133 < k := of_decide_eq_true (Bool.and_eq_true_iff.mp h).2
  rcases hh with hh | hh
  · omega
  · unfold isF at hh
    rw [if_neg (by omega), if_neg (by omega), if_neg (by omega), if_neg (by omega), h1] at hh
    cases hh
theorem hm_FA {σ σ' : gH} (h : hm σ' = hm σ) (hF : FA σ) : FA σ' := by
  have h1 : FA (hm σ) := hF
  rw [← h] at h1
  exact h1
theorem hm_CM {σ σ' : gH} (h : hm σ' = hm σ) (hF : C_mod σ) : C_mod σ' := by
  have h1 : C_mod (hm σ) := hF
  rw [← h] at h1
  exact h1
theorem lm_FA {σ σ' : gH} (h : lm σ' = lm σ) (hF : FA σ) : FA σ' := by
  have h1 : FA (lm σ) := hF
  rw [← h] at h1
  exact h1
theorem lm_CC {σ σ' : gH} (h : lm σ' = lm σ) (hF : CC σ) : CC σ' := by
  have h1 : CC (lm σ) := hF
  rw [← h] at h1
  exact h1
/-- what a query of the class, of the reference leaves -/
def QC (σ σ' : gH) : Prop := hm σ' = hm σ ∧ CC σ'
def QM (σ σ' : gH) : Prop := lm σ' = lm σ ∧ C_mod σ'
theorem QC.inv {σ σ' : gH} (q : QC σ σ') (h : Inv σ) : Inv σ' := ⟨hm_FA q.1 h.1, q.2, hm_CM q.1 h.2.2⟩
theorem QM.inv {σ σ' : gH} (q : QM σ σ') (h : Inv σ) : Inv σ' := ⟨lm_FA q.1 h.1, lm_CC q.1 h.2.1, q.2⟩
theorem QC.refl {σ : gH} (h : Inv σ) : QC σ σ := ⟨rfl, h.2.1⟩
theorem QM.refl {σ : gH} (h : Inv σ) : QM σ σ := ⟨rfl, h.2.2⟩
theorem QC.trans {σ σ1 σ2 : gH} (a : QC σ σ1) (b : QC σ1 σ2) : QC σ σ2 := ⟨b.1.trans a.1, b.2⟩
theorem QM.trans {σ σ1 σ2 : gH} (a : QM σ σ1) (b : QM σ1 σ2) : QM σ σ2 := ⟨b.1.trans a.1, b.2⟩
theorem QC.rd {σ σ' : gH} (q : QC σ σ') {k : Nat} {i : Int} (hk : 133 ≤ k ∨ isF k i = true) : σ' k i = σ k i := hm_rd q.1 hk
theorem QM.rd {σ σ' : gH} (q : QM σ σ') {k : Nat} {i : Int} (hk : k < 133 ∨ isF k i = true) : σ' k i = σ k i := lm_rd q.1 hk
theorem CI_query {MC MM : gM} {as : List gV} (P : gH → Int) (h1 : ∀ σ, Inv σ → Mt MC 30 (gR 0 :: as) σ (fun v σ' => v = gI (P σ) ∧ QC σ σ')) (h2 : ∀ σ, Inv σ → Mt MM 30 (gR 133 :: as) σ (fun v σ' => v = gI (P σ) ∧ QM σ σ')) (hP : ∀ σ, P (hm σ) = P σ) : CI Inv MC MM as := by
  refine CI_of fun σ hg hI => ⟨P σ, QC σ, h1 σ hI, fun σ1 hg1 q => ?_⟩
  have e : P σ1 = P σ := by rw [← hP σ1, q.1, hP σ]
  refine (h2 σ1 (q.inv hI)).mono fun v σ2 r => ⟨by rw [← e]; exact r.1, r.2.inv (q.inv hI)⟩
theorem CJ_query {MC MM : gM} {as : List gV} (P : gH → Int) (h1 : ∀ σ, Inv σ → Mt MC 30 (gR 0 :: as) σ (fun v σ' => v = gJ (P σ) ∧ QC σ σ')) (h2 : ∀ σ, Inv σ → Mt MM 30 (gR 133 :: as) σ (fun v σ' => v = gJ (P σ) ∧ QM σ σ')) (hP : ∀ σ, P (hm σ) = P σ) : CJ Inv MC MM as := by
  refine CJ_of fun σ hg hI => ⟨P σ, QC σ, h1 σ hI, fun σ1 hg1 q => ?_⟩
  have e : P σ1 = P σ := by rw [← hP σ1, q.1, hP σ]
  refine (h2 σ1 (q.inv hI)).mono fun v σ2 r => ⟨by rw [← e]; exact r.1, r.2.inv (q.inv hI)⟩
