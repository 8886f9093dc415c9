/-! the reading's state, pure: what waits, heights, marks -/
def oth (W : Int → Int) : Nat → Int
  | 0 => 0
  | n + 1 => oth W n + (if W n = 14 ∨ W n = 40 then 1 else 0)
def prn (W : Int → Int) : Nat → Int
  | 0 => 0
  | n + 1 => prn W n + (if W n = 40 then 1 else 0)
/-- what may wait above what -/
def STK (W : Int → Int) (w : Int) : Prop := ∀ i, 0 ≤ i → i < w → (W i = 14 ∨ W i = 15 ∨ W i = 16 ∨ W i = 40) ∧ (0 < i → (W (i - 1) = 14 → W i = 14 ∨ W i = 40) ∧ (W (i - 1) = 15 → W i = 14 ∨ W i = 40) ∧ (W (i - 1) = 16 → W i = 14 ∨ W i = 40 ∨ W i = 15))
theorem STK.less {W : Int → Int} {w m : Int} (h : STK W w) (hm : m ≤ w) : STK W m := fun i a b => h i a (by omega)
theorem oth_cg {W W' : Int → Int} : ∀ {n : Nat}, (∀ i : Int, 0 ≤ i → i < n → W i = W' i) → oth W n = oth W' n
  | 0, _ => rfl
  | n + 1, h => by
    show oth W n + _ = oth W' n + _
    rw [oth_cg (fun i a b => h i a (by omega)), h n (by omega) (by omega)]
theorem prn_cg {W W' : Int → Int} : ∀ {n : Nat}, (∀ i : Int, 0 ≤ i → i < n → W i = W' i) → prn W n = prn W' n
  | 0, _ => rfl
  | n + 1, h => by
    show prn W n + _ = prn W' n + _
    rw [prn_cg (fun i a b => h i a (by omega)), h n (by omega) (by omega)]
theorem oth_s {W : Int → Int} {w : Int} (h : 0 ≤ w) : oth W (w + 1).toNat = oth W w.toNat + (if W w = 14 ∨ W w = 40 then 1 else 0) := by
  have e : (w + 1).toNat = w.toNat + 1 := by omega
  have e2 : ((w.toNat : Nat) : Int) = w := Int.toNat_of_nonneg h
  rw [e]
  show oth W w.toNat + (if W (w.toNat : Int) = 14 ∨ W (w.toNat : Int) = 40 then 1 else 0) = _
  rw [e2]
theorem prn_s {W : Int → Int} {w : Int} (h : 0 ≤ w) : prn W (w + 1).toNat = prn W w.toNat + (if W w = 40 then 1 else 0) := by
  have e : (w + 1).toNat = w.toNat + 1 := by omega
  have e2 : ((w.toNat : Nat) : Int) = w := Int.toNat_of_nonneg h
  rw [e]
  show prn W w.toNat + (if W (w.toNat : Int) = 40 then 1 else 0) = _
  rw [e2]
theorem oth_in (W : Int → Int) : ∀ n : Nat, 0 ≤ prn W n ∧ prn W n ≤ oth W n ∧ oth W n ≤ n
  | 0 => ⟨Int.le_refl _, Int.le_refl _, Int.le_refl _⟩
  | n + 1 => by
    have ih := oth_in W n
    show 0 ≤ prn W n + (if W n = 40 then 1 else 0) ∧ prn W n + (if W n = 40 then 1 else 0) ≤ oth W n + (if W n = 14 ∨ W n = 40 then 1 else 0) ∧ oth W n + (if W n = 14 ∨ W n = 40 then 1 else 0) ≤ ((n + 1 : Nat) : Int)
    split <;> split <;> omega
def tbN (W : Int → Int) : Nat → Int
  | 0 => 0
  | n + 1 => if W n = 15 then 2 else if W n = 16 then 1 else 0
/-- no more than two links above each other one, and two more -/
theorem oth_lk {W : Int → Int} : ∀ n : Nat, STK W n → (n : Int) - oth W n ≤ 2 * oth W n + tbN W n
  | 0, _ => by show (0 : Int) - 0 ≤ 2 * 0 + 0; omega
  | n + 1, h => by
    have ih := oth_lk n (h.less (by omega))
    have c := h n (by omega) (by omega)
    show ((n + 1 : Nat) : Int) - (oth W n + (if W n = 14 ∨ W n = 40 then 1 else 0)) ≤ 2 * (oth W n + (if W n = 14 ∨ W n = 40 then 1 else 0)) + (if W n = 15 then 2 else if W n = 16 then 1 else 0)
    have t : tbN W n ≤ 2 ∧ (W n = 16 → tbN W n = 0) ∧ (W n = 15 → tbN W n ≤ 1) := by
      cases n with
      | zero => exact ⟨by show (0 : Int) ≤ 2; omega, fun _ => rfl, fun _ => by show (0 : Int) ≤ 1; omega⟩
      | succ m =>
        have d := c.2 (by omega)
        rw [show ((m + 1 : Nat) : Int) - 1 = (m : Int) by omega] at d
        show (if W m = 15 then (2 : Int) else if W m = 16 then 1 else 0) ≤ 2 ∧ (_ → (if W m = 15 then (2 : Int) else if W m = 16 then 1 else 0) = 0) ∧ (_ → (if W m = 15 then (2 : Int) else if W m = 16 then 1 else 0) ≤ 1)
        refine ⟨?_, fun x => ?_, fun x => ?_⟩
        · split
          · omega
          · split <;> omega
        · split
          · omega
          · split <;> omega
        · split
          · omega
          · split <;> omega
    by_cases a : W n = 14 ∨ W n = 40
    · rw [if_pos a, if_neg (by omega), if_neg (by omega)]; omega
    · rw [if_neg a]
      by_cases b : W n = 15
      · rw [if_pos b]; have := t.2.2 b; omega
      · have e : W n = 16 := by have := c.1; omega
        rw [if_neg b, if_pos e]; have := t.2.1 e; omega
theorem oth_lkI {W : Int → Int} {w : Int} (h0 : 0 ≤ w) (h : STK W w) : w - oth W w.toNat ≤ 2 * oth W w.toNat + 2 := by
  have e2 : ((w.toNat : Nat) : Int) = w := Int.toNat_of_nonneg h0
  have k := oth_lk w.toNat (by rw [e2]; exact h)
  have t : tbN W w.toNat ≤ 2 := by
    generalize w.toNat = n
    cases n with
    | zero => show (0 : Int) ≤ 2; omega
    | succ m =>
      show (if W m = 15 then (2 : Int) else if W m = 16 then 1 else 0) ≤ 2
      split
      · omega
      · split <;> omega
  omega
/-- the marks from b on, up to z, leave h answers open; never more than 64 -/
def HGT (mk : Int → Int) (b z h : Int) : Prop := b ≤ z ∧ (∀ n : Nat, (n : Int) ≤ z - b → 0 ≤ htM (fun k => mk (b + k)) n ∧ htM (fun k => mk (b + k)) n ≤ 64) ∧ htM (fun k => mk (b + k)) (z - b).toNat = h
theorem HGT_0 (mk : Int → Int) (b : Int) : HGT mk b b 0 := by
  refine ⟨Int.le_refl _, fun n hn => ?_, ?_⟩
  · have e : n = 0 := by omega
    subst e
    exact ⟨Int.le_refl _, by show (0 : Int) ≤ 64; omega⟩
  · rw [Int.sub_self]; rfl
theorem HGT.h0 {mk : Int → Int} {b z h : Int} (H : HGT mk b z h) : 0 ≤ h ∧ h ≤ 64 := by
  have k := H.2.1 (z - b).toNat (by have := H.1; omega)
  rw [H.2.2] at k
  exact k
theorem HGT.cg {mk mk' : Int → Int} {b z h : Int} (H : HGT mk b z h) (e : ∀ k, k < z → mk' k = mk k) : HGT mk' b z h := by
  have c : ∀ n : Nat, (n : Int) ≤ z - b → htM (fun k => mk' (b + k)) n = htM (fun k => mk (b + k)) n := fun n hn => htM_cg fun k a q => by
    show (mk' (b + k) = 14 ↔ mk (b + k) = 14) ∧ (mk' (b + k) = 15 ↔ mk (b + k) = 15) ∧ (mk' (b + k) = 16 ↔ mk (b + k) = 16)
    rw [e (b + k) (by omega)]
    exact ⟨Iff.rfl, Iff.rfl, Iff.rfl⟩
  refine ⟨H.1, fun n hn => ?_, ?_⟩
  · rw [c n hn]; exact H.2.1 n hn
  · rw [c _ (by have := H.1; omega)]; exact H.2.2
theorem HGT.s {mk : Int → Int} {b z h x : Int} (H : HGT mk b z h) (h1 : x = 14 → 1 ≤ h) (h2 : x = 15 ∨ x = 16 → 2 ≤ h) (h3 : h ≤ 63) : HGT (updI mk z x) b (z + 1) (if x = 14 then h else if x = 15 ∨ x = 16 then h - 1 else h + 1) := by
  have hz := H.1
  have p0 := H.h0
  have Hc : HGT (updI mk z x) b z h := H.cg fun k hk => updI_ne (by omega)
  have e : (z + 1 - b).toNat = (z - b).toNat + 1 := by omega
  have e2 : (((z - b).toNat : Nat) : Int) = z - b := Int.toNat_of_nonneg (by omega)
  have L : htM (fun k => updI mk z x (b + k)) ((z - b).toNat + 1) = (if x = 14 then h else if x = 15 ∨ x = 16 then h - 1 else h + 1) := by
    show (if htM (fun k => updI mk z x (b + k)) (z - b).toNat < 0 then (-1 : Int) else if updI mk z x (b + (((z - b).toNat : Nat) : Int)) = 14 then (if 1 ≤ htM (fun k => updI mk z x (b + k)) (z - b).toNat then htM (fun k => updI mk z x (b + k)) (z - b).toNat else -1) else if updI mk z x (b + (((z - b).toNat : Nat) : Int)) = 15 ∨ updI mk z x (b + (((z - b).toNat : Nat) : Int)) = 16 then (if 2 ≤ htM (fun k => updI mk z x (b + k)) (z - b).toNat then htM (fun k => updI mk z x (b + k)) (z - b).toNat - 1 else -1) else htM (fun k => updI mk z x (b + k)) (z - b).toNat + 1) = _
    rw [Hc.2.2, e2, show b + (z - b) = z by omega, updI_eq, if_neg (by omega)]
    by_cases a : x = 14
    · rw [if_pos a, if_pos a, if_pos (h1 a)]
    · rw [if_neg a, if_neg a]
      by_cases c : x = 15 ∨ x = 16
      · rw [if_pos c, if_pos c, if_pos (h2 c)]
      · rw [if_neg c, if_neg c]
  have B : 0 ≤ (if x = 14 then h else if x = 15 ∨ x = 16 then h - 1 else h + 1) ∧ (if x = 14 then h else if x = 15 ∨ x = 16 then h - 1 else h + 1) ≤ 64 := by
    split
    · omega
    · split
      · have := h2 (by assumption); omega
      · omega
  refine ⟨by omega, fun n hn => ?_, ?_⟩
  · by_cases q : n = (z - b).toNat + 1
    · rw [q, L]; exact B
    · exact Hc.2.1 n (by omega)
  · rw [e]; exact L
/-- a mark as it may stand in the rule r -/
def MKO (r : Int) (mk sg : Int → Int) (k : Int) : Prop := (isAtm r (mk k) ∨ mk k = 14 ∨ mk k = 15 ∨ mk k = 16) ∧ (isMeas (mk k) → sg k = 60 ∨ sg k = 61 ∨ sg k = 62) ∧ (¬ isMeas (mk k) → sg k = 0)
theorem MKO.cg {r : Int} {mk sg mk' sg' : Int → Int} {k : Int} (h : MKO r mk sg k) (e1 : mk' k = mk k) (e2 : sg' k = sg k) : MKO r mk' sg' k := by
  unfold MKO at *
  rw [e1, e2]
  exact h
/-- the condition under way: what waits, what is laid -/
def CND (r w d br b z h : Int) (W mk sg : Int → Int) : Prop := 0 ≤ w ∧ STK W w ∧ d = 1 + oth W w.toNat ∧ br = prn W w.toNat ∧ 0 ≤ b ∧ HGT mk b z h ∧ ∀ k, b ≤ k → k < z → MKO r mk sg k
theorem CND.put {r w d br b z h x s : Int} {W mk sg : Int → Int} (C : CND r w d br b z h W mk sg) (hx : isAtm r x) (hs : (isMeas x → s = 60 ∨ s = 61 ∨ s = 62) ∧ (¬ isMeas x → s = 0)) (h3 : h ≤ 63) : CND r w d br b (z + 1) (h + 1) W (updI mk z x) (updI sg z s) := by
  obtain ⟨c1, c2, c3, c4, c5, c6, c7⟩ := C
  have nx : x ≠ 14 ∧ x ≠ 15 ∧ x ≠ 16 := by
    unfold isAtm at hx
    split at hx <;> omega
  have H := c6.s (x := x) (fun e => absurd e nx.1) (fun e => by omega) h3
  rw [if_neg nx.1, if_neg (by omega)] at H
  refine ⟨c1, c2, c3, c4, c5, H, fun k a q => ?_⟩
  by_cases e : k = z
  · unfold MKO
    rw [e, updI_eq, updI_eq]
    exact ⟨Or.inl hx, hs⟩
  · exact (c7 k a (by omega)).cg (updI_ne e) (updI_ne e)
/-- n nots laid -/
theorem CND_nots {r b z h : Int} {mk sg : Int → Int} (H : HGT mk b z h) (M : ∀ k, b ≤ k → k < z → MKO r mk sg k) (h1 : 1 ≤ h) (h3 : h ≤ 63) : ∀ n : Nat, HGT (pfl mk z n 14) b (z + n) h ∧ ∀ k, b ≤ k → k < z + n → MKO r (pfl mk z n 14) (pfl sg z n 0) k
  | 0 => by
    rw [show ((0 : Nat) : Int) = 0 from rfl, pfl_0, pfl_0, Int.add_zero]
    exact ⟨H, M⟩
  | n + 1 => by
    obtain ⟨i1, i2⟩ := CND_nots H M h1 h3 n
    have e : ((n + 1 : Nat) : Int) = (n : Int) + 1 := by omega
    rw [e, ← pfl_s (by omega), ← pfl_s (by omega), ← Int.add_assoc]
    have k := i1.s (x := 14) (fun _ => h1) (fun q => by omega) h3
    rw [if_pos rfl] at k
    refine ⟨k, fun j a q => ?_⟩
    by_cases ej : j = z + n
    · unfold MKO
      rw [ej, updI_eq, updI_eq]
      exact ⟨Or.inr (Or.inl rfl), fun q => by omega, fun _ => rfl⟩
    · exact (i2 j a (by omega)).cg (updI_ne ej) (updI_ne ej)
/-- nots, brackets among the last -/
theorem oth_nots {W : Int → Int} {w m : Int} (N : NTS W 14 w m) : oth W m.toNat = oth W w.toNat - (w - m) ∧ prn W m.toNat = prn W w.toNat := by
  obtain ⟨n1, n2, _⟩ := N
  have : ∀ n : Nat, m + n ≤ w → oth W (m + n).toNat = oth W m.toNat + n ∧ prn W (m + n).toNat = prn W m.toNat := by
    intro n
    induction n with
    | zero => intro _; rw [show m + ((0 : Nat) : Int) = m by omega]; exact ⟨by omega, rfl⟩
    | succ n ih =>
      intro h
      have k := ih (by omega)
      have e := n2 (m + n) (by omega) (by omega)
      rw [show m + ((n + 1 : Nat) : Int) = m + n + 1 by omega, oth_s (by omega), prn_s (by omega), e, if_pos (Or.inl rfl), if_neg (by omega), k.1, k.2]
      exact ⟨by omega, by omega⟩
  have k := this (w - m).toNat (by omega)
  rw [show m + ((w - m).toNat : Int) = w by omega] at k
  omega
theorem CND.nots {r w d br b z h m : Int} {W mk sg : Int → Int} (C : CND r w d br b z h W mk sg) (h1 : 1 ≤ h) (h3 : h ≤ 63) (N : NTS W 14 w m) : CND r m (d - (w - m)) br b (z + (w - m)) h W (pfl mk z (w - m) 14) (pfl sg z (w - m) 0) := by
  obtain ⟨c1, c2, c3, c4, c5, c6, c7⟩ := C
  have o := oth_nots N
  have k := CND_nots c6 c7 h1 h3 (w - m).toNat
  have n1 := N.1
  rw [show ((w - m).toNat : Int) = w - m by omega] at k
  exact ⟨n1.1, c2.less n1.2, by omega, by omega, c5, k.1, k.2⟩
theorem CND_links {r w b z h x : Int} {W mk sg : Int → Int} (H : HGT mk b z h) (M : ∀ k, b ≤ k → k < z → MKO r mk sg k) (h3 : h ≤ 63) : ∀ n : Nat, (n : Int) + 1 ≤ h → (∀ i, w - n ≤ i → i < w → W i = 15 ∨ W i = 16) → HGT (rvf mk z n W w) b (z + n) (h - n) ∧ ∀ k, b ≤ k → k < z + n → MKO r (rvf mk z n W w) (pfl sg z n 0) k
  | 0, _, _ => by
    rw [show ((0 : Nat) : Int) = 0 from rfl, rvf_0, pfl_0, Int.add_zero, Int.sub_zero]
    exact ⟨H, M⟩
  | n + 1, hn, hW => by
    obtain ⟨i1, i2⟩ := CND_links (x := x) H M h3 n (by omega) (fun i a q => hW i (by omega) q)
    have e : ((n + 1 : Nat) : Int) = (n : Int) + 1 := by omega
    have v := hW (w - 1 - n) (by omega) (by omega)
    rw [e, ← rvf_s (by omega), ← pfl_s (by omega), ← Int.add_assoc]
    have k := i1.s (x := W (w - 1 - n)) (fun q => by omega) (fun _ => by omega) (by omega)
    rw [if_neg (by omega), if_pos v, show h - n - 1 = h - (n + 1) by omega] at k
    refine ⟨k, fun j a q => ?_⟩
    by_cases ej : j = z + n
    · unfold MKO
      rw [ej, updI_eq, updI_eq]
      exact ⟨by omega, fun q => by omega, fun _ => rfl⟩
    · exact (i2 j a (by omega)).cg (updI_ne ej) (updI_ne ej)
theorem oth_links {W : Int → Int} {w m x : Int} (hx : x = 15 ∨ x = 16) (N : LKS W x w m) : oth W m.toNat = oth W w.toNat ∧ prn W m.toNat = prn W w.toNat := by
  obtain ⟨n1, n2, _⟩ := N
  have : ∀ n : Nat, m + n ≤ w → oth W (m + n).toNat = oth W m.toNat ∧ prn W (m + n).toNat = prn W m.toNat := by
    intro n
    induction n with
    | zero => intro _; rw [show m + ((0 : Nat) : Int) = m by omega]; exact ⟨rfl, rfl⟩
    | succ n ih =>
      intro h
      have k := ih (by omega)
      have e := n2 (m + n) (by omega) (by omega)
      rw [show m + ((n + 1 : Nat) : Int) = m + n + 1 by omega, oth_s (by omega), prn_s (by omega), if_neg (by omega), if_neg (by omega), k.1, k.2]
      exact ⟨by omega, by omega⟩
  have k := this (w - m).toNat (by omega)
  rw [show m + ((w - m).toNat : Int) = w by omega] at k
  exact ⟨k.1.symm, k.2.symm⟩
theorem CND.links {r w d br b z m x : Int} {W mk sg : Int → Int} (C : CND r w d br b z (w - oth W w.toNat + 1) W mk sg) (h3 : w - oth W w.toNat + 1 ≤ 63) (hx : x = 15 ∨ x = 16) (N : LKS W x w m) : CND r m d br b (z + (w - m)) (m - oth W m.toNat + 1) W (rvf mk z (w - m) W w) (pfl sg z (w - m) 0) := by
  obtain ⟨c1, c2, c3, c4, c5, c6, c7⟩ := C
  have o := oth_links hx N
  have n1 := N.1
  have i := oth_in W m.toNat
  have k := CND_links (x := x) (W := W) (w := w) c6 c7 h3 (w - m).toNat (by omega) (fun i a q => by have := N.2.1 i (by omega) q; omega)
  rw [show ((w - m).toNat : Int) = w - m by omega] at k
  refine ⟨n1.1, c2.less n1.2, by omega, by omega, c5, ?_, k.2⟩
  rw [show m - oth W m.toNat + 1 = w - oth W w.toNat + 1 - (w - m) by omega]
  exact k.1
/-- one more waits -/
theorem CND.wait {r w d br b z h x : Int} {W mk sg : Int → Int} (C : CND r w d br b z h W mk sg) (hx : x = 14 ∨ x = 15 ∨ x = 16 ∨ x = 40) (hp : 0 < w → (W (w - 1) = 14 → x = 14 ∨ x = 40) ∧ (W (w - 1) = 15 → x = 14 ∨ x = 40) ∧ (W (w - 1) = 16 → x = 14 ∨ x = 40 ∨ x = 15)) :
    CND r (w + 1) (d + (if x = 14 ∨ x = 40 then 1 else 0)) (br + (if x = 40 then 1 else 0)) b z h (updI W w x) mk sg ∧ oth (updI W w x) (w + 1).toNat = oth W w.toNat + (if x = 14 ∨ x = 40 then 1 else 0) := by
  obtain ⟨c1, c2, c3, c4, c5, c6, c7⟩ := C
  have o : oth (updI W w x) (w + 1).toNat = oth W w.toNat + (if x = 14 ∨ x = 40 then 1 else 0) := by
    rw [oth_s c1, updI_eq, oth_cg (W := updI W w x) (W' := W) (fun i a q => updI_ne (by omega))]
  have p : prn (updI W w x) (w + 1).toNat = prn W w.toNat + (if x = 40 then 1 else 0) := by
    rw [prn_s c1, updI_eq, prn_cg (W := updI W w x) (W' := W) (fun i a q => updI_ne (by omega))]
  refine ⟨⟨by omega, fun i a q => ?_, by rw [o, c3]; omega, by rw [p, c4], c5, c6, c7⟩, o⟩
  by_cases e : i = w
  · rw [e, updI_eq]
    refine ⟨hx, fun q => ?_⟩
    rw [updI_ne (by omega)]
    exact hp q
  · rw [updI_ne e]
    refine ⟨(c2 i a (by omega)).1, fun q => ?_⟩
    rw [updI_ne (by omega)]
    exact (c2 i a (by omega)).2 q
/-- a bracket at the end waits no more -/
theorem CND.unb {r w d br b z h : Int} {W mk sg : Int → Int} (C : CND r w d br b z h W mk sg) (h0 : 0 < w) (hx : W (w - 1) = 40) : CND r (w - 1) (d - 1) (br - 1) b z h W mk sg ∧ oth W (w - 1).toNat = oth W w.toNat - 1 := by
  obtain ⟨c1, c2, c3, c4, c5, c6, c7⟩ := C
  have o := oth_s (W := W) (w := w - 1) (by omega)
  have p := prn_s (W := W) (w := w - 1) (by omega)
  rw [show w - 1 + 1 = w by omega, hx, if_pos (Or.inr rfl)] at o
  rw [show w - 1 + 1 = w by omega, hx, if_pos rfl] at p
  exact ⟨⟨by omega, c2.less (by omega), by omega, by omega, c5, c6, c7⟩, by omega⟩
/-- behind the links: nothing waits, or a bracket -/
theorem links_top {W : Int → Int} {w m : Int} (S : STK W w) (N : LKS W 16 w m) (ht : 0 < w → W (w - 1) ≠ 14) (h0 : 0 < m) : W (m - 1) = 40 := by
  obtain ⟨n1, n2, n3⟩ := N
  have a := n3 h0
  have b := S (m - 1) (by omega) (by omega)
  by_cases e : m = w
  · have := ht (by omega)
    rw [← e] at this
    omega
  · have c := (S m (by omega) (by omega)).2 h0
    have d := n2 m (by omega) (by omega)
    omega
theorem prn_0 {W : Int → Int} {m : Int} (h : 0 < m) (e : W (m - 1) = 40) : 1 ≤ prn W m.toNat := by
  have p := prn_s (W := W) (w := m - 1) (by omega)
  have i := oth_in W (m - 1).toNat
  rw [show m - 1 + 1 = m by omega, e, if_pos rfl] at p
  omega
/-- a rule that is done -/
def RUL (b e z : Int) (mk sg : Int → Int) (r : Int) : Prop := b = e ∨ (0 ≤ b ∧ b < e ∧ e ≤ z ∧ HGT mk b e 1 ∧ ∀ k, b ≤ k → k < e → MKO r mk sg k)
theorem RUL.mono {b e z z' : Int} {mk sg mk' sg' : Int → Int} {r : Int} (h : RUL b e z mk sg r) (hz : z ≤ z') (e1 : ∀ k, k < z → mk' k = mk k) (e2 : ∀ k, k < z → sg' k = sg k) : RUL b e z' mk' sg' r := by
  rcases h with h | ⟨a1, a2, a3, a4, a5⟩
  · exact Or.inl h
  · exact Or.inr ⟨a1, a2, by omega, a4.cg fun k q => e1 k (by omega), fun k a q => (a5 k a q).cg (e1 k (by omega)) (e2 k (by omega))⟩
theorem pfl_lo {R : Int → Int} {a n v k : Int} (h : k < a) : pfl R a n v k = R k := if_neg (by omega)
theorem rvf_lo {R W : Int → Int} {a n t k : Int} (h : k < a) : rvf R a n W t k = R k := if_neg (by omega)
theorem fHEQ {f g : Int → Int} {z : Int} (h : f = g) : ∀ k, k < z → f k = g k := fun k _ => by rw [h]
