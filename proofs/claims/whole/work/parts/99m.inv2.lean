/-! the reading's state: what holds at each token -/
def TKI (t l e p L : Int) : Prop := t = 1 ∧ l = L ∧ e = EDG L ∧ 0 ≤ p ∧ p ≤ L
def NUM (ru p te n4 n5 n6 n7 n8 : Int) (wi : Int → Int) : Prop := 0 ≤ ru ∧ (ru ≤ p ∧ ru ≤ 500) ∧ (0 ≤ te ∧ te ≤ 8) ∧ (∀ k, 0 ≤ k → k < te → 0 ≤ wi k ∧ wi k ≤ 999) ∧ (0 ≤ n4 ∧ n4 ≤ 4) ∧ (1 ≤ n5 ∧ n5 ≤ 999) ∧ (0 ≤ n6 ∧ n6 ≤ 3650) ∧ (1 ≤ n7 ∧ n7 ≤ 999) ∧ (0 ≤ n8 ∧ n8 ≤ 12)
def RLS (q : Prop) (c z : Int) (B E mk sg : Int → Int) : Prop := ∀ r, 0 ≤ r → r < 10 → (q → r ≠ c) → RUL (B r) (E r) z mk sg r
def HED (st tl te wi wd : Int) : Prop := (tl ≠ 0 → te < 8 ∧ 0 ≤ wi ∧ wi ≤ 999) ∧ (tl = 0 → wd = 20 ∨ wd = 21) ∧ (st < 3 → tl ≠ 0)
def CON (st r w d br z on tl wd sn : Int) (B E W mk sg : Int → Int) : Prop := CND r w d br (B r) z (w - oth W w.toNat + (if st = 7 then 1 else 0)) W mk sg ∧ oth W w.toNat ≤ 20 ∧ z + w ≤ 2 * on - (if st = 7 then 1 else if st = 4 then 0 else 2) ∧ E r = B r ∧ (0 ≤ r ∧ r < 10) ∧ (tl ≠ 0 ↔ r < 8) ∧ (st = 7 → 0 < w → W (w - 1) ≠ 14) ∧ (st = 5 ∨ st = 6 → isMeas wd ∧ isAtm r wd) ∧ (st = 6 → sn = 60 ∨ sn = 61 ∨ sn = 62)
def INVb (L : Int) (S : gH) : Prop := TKI (S 66 0) (S 66 1) (S 66 2) (S 66 4) L ∧ (0 ≤ S 57 6 ∧ S 57 6 ≤ 10) ∧ NUM (S 68 2) (S 66 4) (S 68 3) (S 68 4) (S 68 5) (S 68 6) (S 68 7) (S 68 8) (S 69) ∧ (0 ≤ S 57 13 ∧ S 57 13 ≤ 60) ∧ 0 ≤ S 68 15 ∧
  RLS (4 ≤ S 57 6 ∧ S 57 6 ≤ 7) (S 57 12) (S 68 15) (S 70) (S 71) (S 72) (S 73) ∧ (S 57 6 < 4 ∨ 7 < S 57 6 → S 68 15 ≤ 2 * S 57 13) ∧ (1 ≤ S 57 6 ∧ S 57 6 ≤ 3 → HED (S 57 6) (S 57 11) (S 68 3) (S 57 10) (S 57 8)) ∧
  (4 ≤ S 57 6 ∧ S 57 6 ≤ 7 → CON (S 57 6) (S 57 12) (S 57 17) (S 57 14) (S 57 15) (S 68 15) (S 57 13) (S 57 11) (S 57 8) (S 57 9) (S 70) (S 71) (S 67) (S 72) (S 73)) ∧ (S 57 6 = 8 → S 57 8 = 8 ∨ (22 ≤ S 57 8 ∧ S 57 8 ≤ 25))
def INV (L : Int) (S : gH) : Prop := S 57 3 = 0 → INVb L S
theorem INV_f {L f : Int} {X : gH} (hf : f ≠ 0) : INV L (gUp X 57 3 f) := fun h => absurd (show f = 0 from h) hf
/-- a state between conditions -/
theorem IV_out {L : Int} {X : gH} (iT : TKI (X 66 0) (X 66 1) (X 66 2) (X 66 4) L) (iN : NUM (X 68 2) (X 66 4) (X 68 3) (X 68 4) (X 68 5) (X 68 6) (X 68 7) (X 68 8) (X 69)) (iO : 0 ≤ X 57 13 ∧ X 57 13 ≤ 60) (iZ : 0 ≤ X 68 15) (iR : RLS False 0 (X 68 15) (X 70) (X 71) (X 72) (X 73)) (iQ : X 68 15 ≤ 2 * X 57 13)
    {s : Int} (hs : X 57 6 = s) (hb : (0 ≤ s ∧ s < 4) ∨ (7 < s ∧ s ≤ 10)) (iH : 1 ≤ s → s ≤ 3 → HED s (X 57 11) (X 68 3) (X 57 10) (X 57 8)) (i8 : s = 8 → X 57 8 = 8 ∨ (22 ≤ X 57 8 ∧ X 57 8 ≤ 25)) : INVb L X :=
  ⟨iT, by rw [hs]; omega, iN, iO, iZ, fun r a b _ => iR r a b (fun q => q.elim), fun _ => iQ, fun q => by rw [hs] at q ⊢; exact iH q.1 q.2, fun q => by rw [hs] at q; omega, fun q => i8 (hs ▸ q)⟩
/-- a state within a condition -/
theorem IV_in {L : Int} {X : gH} (iT : TKI (X 66 0) (X 66 1) (X 66 2) (X 66 4) L) (iN : NUM (X 68 2) (X 66 4) (X 68 3) (X 68 4) (X 68 5) (X 68 6) (X 68 7) (X 68 8) (X 69)) (iO : 0 ≤ X 57 13 ∧ X 57 13 ≤ 60) (iZ : 0 ≤ X 68 15) (iR : RLS True (X 57 12) (X 68 15) (X 70) (X 71) (X 72) (X 73))
    {s : Int} (hs : X 57 6 = s) (hb : 4 ≤ s ∧ s ≤ 7) (iC : CON s (X 57 12) (X 57 17) (X 57 14) (X 57 15) (X 68 15) (X 57 13) (X 57 11) (X 57 8) (X 57 9) (X 70) (X 71) (X 67) (X 72) (X 73)) : INVb L X :=
  ⟨iT, by rw [hs]; omega, iN, iO, iZ, fun r a b c => iR r a b (fun _ => c (by rw [hs]; exact hb)), fun q => by rw [hs] at q; omega, fun q => by rw [hs] at q; omega, fun _ => by rw [hs]; exact iC, fun q => by rw [hs] at q; omega⟩
theorem IV_LTE {L : Int} {M : gH} (I : INVb L M) (h0 : M 57 6 = 0) : INV L (gUp (LTE M).1 57 3 (LTE M).2) := by
  obtain ⟨iT, iS, iN, iO, iZ, iR, iQ, iH, iC, i8⟩ := I
  intro h9; clear h9
  exact IV_out (X := gUp (LTE M).1 57 3 (LTE M).2) (s := 10) iT iN iO iZ (fun r a b _ => iR r a b (fun q => by omega)) (iQ (by omega)) rfl (by omega) (fun a b => by omega) (fun a => by omega)
theorem IV_LTR {L w : Int} {M : gH} (I : INVb L M) (h0 : M 57 6 = 0) : INV L (gUp (LTR M w).1 57 3 (LTR M w).2) := by
  obtain ⟨iT, iS, iN, iO, iZ, iR, iQ, iH, iC, i8⟩ := I
  unfold LTR
  split
  · exact INV_f (by first | exact (by decide : (1 : Int) ≠ 0) | exact (by decide : (2 : Int) ≠ 0) | exact (by decide : (3 : Int) ≠ 0) | exact (by decide : (4 : Int) ≠ 0))
  · rename_i hw
    split
    · exact INV_f (by first | exact (by decide : (1 : Int) ≠ 0) | exact (by decide : (2 : Int) ≠ 0) | exact (by decide : (3 : Int) ≠ 0) | exact (by decide : (4 : Int) ≠ 0))
    · rename_i ht
      intro h9; clear h9
      have hw2 : w = 8 ∨ (19 ≤ w ∧ w ≤ 25) := Classical.not_not.mp hw
      have R0 : RLS False 0 (M 68 15) (M 70) (M 71) (M 72) (M 73) := fun r a b _ => iR r a b (fun q => by omega)
      refine IV_out (X := gUp (LTRs M w) 57 3 0) (s := if w = 19 then 1 else if w = 20 ∨ w = 21 then 3 else 8) iT iN iO iZ R0 (iQ (by omega)) rfl ?_ (fun a b => ?_) (fun a => ?_)
      · split
        · omega
        · split <;> omega
      · show HED _ (gb (w = 19)) (M 68 3) 30 w
        by_cases c : w = 19
        · rw [if_pos c, gb_t c]
          have ht2 : ¬ 8 ≤ M 68 3 := fun q => ht (Or.inl ⟨c, q⟩)
          exact ⟨fun _ => by omega, fun q => by omega, fun _ => by omega⟩
        · rw [if_neg c] at a b ⊢
          rw [gb_f c]
          by_cases c2 : w = 20 ∨ w = 21
          · rw [if_pos c2]
            exact ⟨fun q => absurd rfl q, fun _ => c2, fun q => by omega⟩
          · rw [if_neg c2] at b
            omega
      · show w = 8 ∨ (22 ≤ w ∧ w ≤ 25)
        by_cases c : w = 19
        · rw [if_pos c] at a; omega
        · rw [if_neg c] at a
          by_cases c2 : w = 20 ∨ w = 21
          · rw [if_pos c2] at a; omega
          · omega
theorem IV_LTD {L k v : Int} {M : gH} (I : INVb L M) (h0 : M 57 6 = 2) : INV L (gUp (LTD M k v).1 57 3 (LTD M k v).2) := by
  obtain ⟨iT, iS, iN, iO, iZ, iR, iQ, iH, iC, i8⟩ := I
  have H := iH (by omega)
  unfold LTD
  split
  · exact INV_f (by first | exact (by decide : (1 : Int) ≠ 0) | exact (by decide : (2 : Int) ≠ 0) | exact (by decide : (3 : Int) ≠ 0) | exact (by decide : (4 : Int) ≠ 0))
  · intro hf
    have hv : 0 ≤ v ∧ v ≤ 999 := by
      have hf2 : (if 0 ≤ v ∧ v ≤ 999 then (0 : Int) else 2) = 0 := hf
      by_cases c : 0 ≤ v ∧ v ≤ 999
      · exact c
      · rw [if_neg c] at hf2; omega
    refine IV_out (s := 3) iT iN iO iZ (fun r a b _ => iR r a b (fun q => by omega)) (iQ (by omega)) rfl (by omega) (fun a b => ?_) (fun a => by omega)
    show HED 3 (M 57 11) (M 68 3) v (M 57 8)
    exact ⟨fun q => ⟨(H.1 q).1, hv⟩, H.2.1, fun q => by omega⟩
/-- a word behind the tell: within -/
theorem IV_wi {L : Int} {M : gH} (I : INVb L M) (h0 : M 57 6 = 1) : INV L (gUp (gUp M 57 6 2) 57 3 0) := by
  obtain ⟨iT, iS, iN, iO, iZ, iR, iQ, iH, iC, i8⟩ := I
  have H := iH (by omega)
  intro h9; clear h9
  refine IV_out (s := 2) iT iN iO iZ (fun r a b _ => iR r a b (fun q => by omega)) (iQ (by omega)) rfl (by omega) (fun a b => ?_) (fun a => by omega)
  show HED 2 (M 57 11) (M 68 3) (M 57 10) (M 57 8)
  exact ⟨H.1, H.2.1, fun _ => H.2.2 (by omega)⟩
/-- a rule begins -/
theorem IV_BGN {L r : Int} {M : gH} (iT : TKI (M 66 0) (M 66 1) (M 66 2) (M 66 4) L) (iN : NUM (M 68 2) (M 66 4) (M 68 3) (M 68 4) (M 68 5) (M 68 6) (M 68 7) (M 68 8) (M 69)) (iO : 0 ≤ M 57 13 ∧ M 57 13 ≤ 60) (iZ : 0 ≤ M 68 15) (iR : RLS False 0 (M 68 15) (M 70) (M 71) (M 72) (M 73)) (iQ : M 68 15 ≤ 2 * M 57 13) (hr : M 57 12 = r) (hr2 : 0 ≤ r ∧ r < 10) (ht : M 57 11 ≠ 0 ↔ r < 8) : INV L (gUp (BGN M r) 57 3 0) := by
  intro h9; clear h9
  have eB : (gUp (BGN M r) 57 3 0) 70 r = M 68 15 := if_pos rfl
  have eE : (gUp (BGN M r) 57 3 0) 71 r = M 68 15 := if_pos rfl
  have nB : ∀ q, q ≠ r → (gUp (BGN M r) 57 3 0) 70 q = M 70 q := fun q h => if_neg h
  have nE : ∀ q, q ≠ r → (gUp (BGN M r) 57 3 0) 71 q = M 71 q := fun q h => if_neg h
  refine IV_in (s := 4) iT iN iO iZ (fun q a b c => ?_) rfl (by omega) ?_
  · have c2 : q ≠ M 57 12 := c trivial
    rw [hr] at c2
    rw [nB q c2, nE q c2]
    exact iR q a b (fun q => q.elim)
  · show CON 4 (M 57 12) 0 1 0 (M 68 15) (M 57 13) (M 57 11) (M 57 8) (M 57 9) ((gUp (BGN M r) 57 3 0) 70) ((gUp (BGN M r) 57 3 0) 71) (M 67) (M 72) (M 73)
    unfold CON
    rw [hr, eB, eE]
    refine ⟨⟨Int.le_refl _, fun i a b => by omega, rfl, rfl, iZ, HGT_0 _ _, fun k a b => by omega⟩, by show (0 : Int) ≤ 20; omega, ?_, rfl, hr2, ht, fun q => by omega, fun q => by omega, fun q => by omega⟩
    rw [if_neg (by omega), if_pos rfl]; omega
theorem IV_LTI {L w : Int} {M : gH} (I : INVb L M) (h0 : M 57 6 = 1 ∨ M 57 6 = 3) : INV L (gUp (LTI M w).1 57 3 (LTI M w).2) := by
  obtain ⟨iT, iS, iN, iO, iZ, iR, iQ, iH, iC, i8⟩ := I
  have H := iH (by omega)
  have R0 : RLS False 0 (M 68 15) (M 70) (M 71) (M 72) (M 73) := fun r a b _ => iR r a b (fun q => by omega)
  unfold LTI
  split
  · exact INV_f (by first | exact (by decide : (1 : Int) ≠ 0) | exact (by decide : (2 : Int) ≠ 0) | exact (by decide : (3 : Int) ≠ 0) | exact (by decide : (4 : Int) ≠ 0))
  · split
    · rename_i _ ht
      have h1 := H.1 ht
      obtain ⟨n1, n2, n3, n4, n5⟩ := iN
      refine IV_BGN (M := ADT M) iT ⟨n1, n2, ?_, ?_, n5⟩ iO iZ R0 (iQ (by omega)) rfl ⟨n3.1, by omega⟩ ⟨fun _ => h1.1, fun _ => ht⟩
      · show 0 ≤ M 68 3 + 1 ∧ M 68 3 + 1 ≤ 8
        omega
      · intro k a b
        have b2 : k < M 68 3 + 1 := b
        show 0 ≤ (if k = M 68 3 then M 57 10 else M 69 k) ∧ (if k = M 68 3 then M 57 10 else M 69 k) ≤ 999
        by_cases c : k = M 68 3
        · rw [if_pos c]; exact h1.2
        · rw [if_neg c]; exact n4 k a (by omega)
    · rename_i _ ht
      refine IV_BGN (M := gUp M 57 12 (if M 57 8 = 20 then 8 else 9)) iT iN iO iZ R0 (iQ (by omega)) rfl (by split <;> omega) ⟨fun q => absurd q ht, fun q => ?_⟩
      exfalso
      have q2 : (if M 57 8 = 20 then (8 : Int) else 9) < 8 := q
      by_cases c : M 57 8 = 20
      · rw [if_pos c] at q2; omega
      · rw [if_neg c] at q2; omega
/-- an atom is laid, and the nots that waited for it -/
theorem IV_LTA {L x s n : Int} {M : gH} (iT : TKI (M 66 0) (M 66 1) (M 66 2) (M 66 4) L) (iN : NUM (M 68 2) (M 66 4) (M 68 3) (M 68 4) (M 68 5) (M 68 6) (M 68 7) (M 68 8) (M 69)) (iO : 0 ≤ M 57 13 ∧ M 57 13 ≤ 60) (iZ : 0 ≤ M 68 15) (iR : RLS True (M 57 12) (M 68 15) (M 70) (M 71) (M 72) (M 73))
    (C : CND (M 57 12) (M 57 17) (M 57 14) (M 57 15) (M 70 (M 57 12)) (M 68 15) (M 57 17 - oth (M 67) (M 57 17).toNat) (M 67) (M 72) (M 73)) (ho : oth (M 67) (M 57 17).toNat ≤ 20) (hz : M 68 15 + M 57 17 ≤ 2 * M 57 13 - 2) (hE : M 71 (M 57 12) = M 70 (M 57 12)) (hr : 0 ≤ M 57 12 ∧ M 57 12 < 10) (ht : M 57 11 ≠ 0 ↔ M 57 12 < 8)
    (hx : isAtm (M 57 12) x) (hs : (isMeas x → s = 60 ∨ s = 61 ∨ s = 62) ∧ (¬ isMeas x → s = 0)) : INV L (gUp (LTA M x s n) 57 3 0) := by
  intro h9; clear h9
  have c1 := C.1
  have lk := oth_lkI C.1 C.2.1
  have P := C.put hx hs (by omega)
  have i0 := oth_in (M 67) (M 57 17).toNat
  have N := ntF_at (W := M 67) (x := 14) c1
  have P2 := P.nots (m := ntF (M 67) 14 (M 57 17).toNat) (by omega) (by omega) N
  have o := oth_nots N
  have nn := N.1
  generalize hm : ntF (M 67) 14 (M 57 17).toNat = m at *
  have e67 : (PTS M x s n) 67 = M 67 := rfl
  have e17 : (PTS M x s n) 57 17 = M 57 17 := rfl
  have em : ntF ((PTS M x s n) 67) 14 ((PTS M x s n) 57 17).toNat = m := hm
  have k1 : (gUp (LTA M x s n) 57 3 0) 57 17 = m := em
  have k2 : (gUp (LTA M x s n) 57 3 0) 57 14 = M 57 14 - (M 57 17 - m) := by rw [← em]; rfl
  have k3 : (gUp (LTA M x s n) 57 3 0) 68 15 = M 68 15 + 1 + (M 57 17 - m) := by rw [← em]; rfl
  have k4 : (gUp (LTA M x s n) 57 3 0) 72 = pfl (updI (M 72) (M 68 15) x) (M 68 15 + 1) (M 57 17 - m) 14 := by rw [← em]; rfl
  have k5 : (gUp (LTA M x s n) 57 3 0) 73 = pfl (updI (M 73) (M 68 15) s) (M 68 15 + 1) (M 57 17 - m) 0 := by rw [← em]; rfl
  refine IV_in (s := 7) iT iN iO (by rw [k3]; omega) (fun q a b c => ?_) rfl (by omega) ?_
  · rw [k3, k4, k5]
    exact (iR q a b c).mono (by omega) (fun k h => by rw [pfl_lo (by omega), updI_ne (by omega)]) (fun k h => by rw [pfl_lo (by omega), updI_ne (by omega)])
  · rw [k1, k2, k3, k4, k5]
    show CON 7 (M 57 12) m (M 57 14 - (M 57 17 - m)) (M 57 15) (M 68 15 + 1 + (M 57 17 - m)) (M 57 13) (M 57 11) (M 57 8) (M 57 9) (M 70) (M 71) (M 67) _ _
    refine ⟨?_, by omega, by rw [if_pos rfl]; omega, hE, hr, ht, fun _ q => N.2.2 q, fun q => by omega, fun q => by omega⟩
    rw [if_pos rfl, o.1, show m - (oth (M 67) (M 57 17).toNat - (M 57 17 - m)) + 1 = M 57 17 - oth (M 67) (M 57 17).toNat + 1 by omega]
    exact P2
theorem isAtm_of {r tl w : Int} (ht : tl ≠ 0 ↔ r < 8) (h : atmK tl w) : isAtm r w := by
  unfold isAtm
  rcases h with h | h
  · rw [if_pos (ht.mp h.1)]; exact h.2
  · rw [if_neg (fun q => absurd h.1 (ht.mpr q))]; exact h.2
theorem IV_LTO {L k w : Int} {M : gH} (I : INVb L M) (h0 : M 57 6 = 4) : INV L (gUp (LTO M k w).1 57 3 (LTO M k w).2) := by
  obtain ⟨iT, iS, iN, iO, iZ, iR, iQ, iH, iC, i8⟩ := I
  obtain ⟨C, ho, hz, hE, hr, ht, h7, h5, h6⟩ := iC (by omega)
  have R1 : RLS True (M 57 12) (M 68 15) (M 70) (M 71) (M 72) (M 73) := fun r a b c => iR r a b (fun _ => c trivial)
  rw [h0, if_neg (by omega), Int.add_zero] at C
  rw [h0, if_neg (by omega), if_pos rfl] at hz
  have lk := oth_lkI C.1 C.2.1
  have c3 := C.2.2.1
  unfold LTO
  split
  · exact INV_f (by first | exact (by decide : (1 : Int) ≠ 0) | exact (by decide : (2 : Int) ≠ 0) | exact (by decide : (3 : Int) ≠ 0) | exact (by decide : (4 : Int) ≠ 0))
  · rename_i ha
    split
    · exact INV_f (by first | exact (by decide : (1 : Int) ≠ 0) | exact (by decide : (2 : Int) ≠ 0) | exact (by decide : (3 : Int) ≠ 0) | exact (by decide : (4 : Int) ≠ 0))
    · rename_i hq
      split
      · rename_i hn
        intro h9; clear h9
        have W1 := (C.wait (x := if k = 40 then 40 else 14) (by split <;> omega) (fun q => by
          have b := (C.2.1 (M 57 17 - 1) (by omega) (by omega)).1
          split <;> omega))
        have hx : (if (if k = 40 then (40 : Int) else 14) = 14 ∨ (if k = 40 then (40 : Int) else 14) = 40 then (1 : Int) else 0) = 1 := by
          by_cases c : k = 40
          · rw [if_pos c]; rfl
          · rw [if_neg c]; rfl
        have hy : (if (if k = 40 then (40 : Int) else 14) = 40 then (1 : Int) else 0) = gb (k = 40) := by
          by_cases c : k = 40
          · rw [if_pos c, gb_t c]; rfl
          · rw [if_neg c, gb_f c]; rfl
        rw [hx, hy] at W1
        refine IV_in (s := 4) iT iN ?_ iZ R1 h0 (by omega) ?_
        · show 0 ≤ M 57 13 + 1 ∧ M 57 13 + 1 ≤ 60
          omega
        · show CON 4 (M 57 12) (M 57 17 + 1) (M 57 14 + 1) (M 57 15 + gb (k = 40)) (M 68 15) (M 57 13 + 1) (M 57 11) (M 57 8) (M 57 9) (M 70) (M 71) (updI (M 67) (M 57 17) (if k = 40 then 40 else 14)) (M 72) (M 73)
          refine ⟨?_, by rw [W1.2]; omega, by rw [if_neg (by omega), if_pos rfl]; omega, hE, hr, ht, fun q => by omega, fun q => by omega, fun q => by omega⟩
          rw [if_neg (show ¬ (4 : Int) = 7 by decide), W1.2, show M 57 17 + 1 - (oth (M 67) (M 57 17).toNat + 1) + 0 = M 57 17 - oth (M 67) (M 57 17).toNat by omega]
          exact W1.1
      · rename_i hn
        have hat : atmK (M 57 11) w := Classical.not_not.mp fun q => ha ⟨hn, q⟩
        split
        · rename_i hme
          intro h9; clear h9
          refine IV_in (s := 5) iT iN ?_ iZ R1 rfl (by omega) ?_
          · show 0 ≤ M 57 13 + 1 ∧ M 57 13 + 1 ≤ 60
            omega
          · show CON 5 (M 57 12) (M 57 17) (M 57 14) (M 57 15) (M 68 15) (M 57 13 + 1) (M 57 11) w (M 57 9) (M 70) (M 71) (M 67) (M 72) (M 73)
            refine ⟨?_, ho, by rw [if_neg (by omega), if_neg (by omega)]; omega, hE, hr, ht, fun q => by omega, fun _ => ⟨hme, isAtm_of ht hat⟩, fun q => by omega⟩
            rw [if_neg (by omega), Int.add_zero]
            exact C
        · rename_i hme
          refine IV_LTA (M := ONE M) iT iN ?_ iZ R1 C ho ?_ hE hr ht (isAtm_of ht hat) ⟨fun q => absurd q hme, fun _ => rfl⟩
          · show 0 ≤ M 57 13 + 1 ∧ M 57 13 + 1 ≤ 60
            omega
          · show M 68 15 + M 57 17 ≤ 2 * (M 57 13 + 1) - 2
            omega
theorem IV_sig {L k : Int} {M : gH} (I : INVb L M) (h0 : M 57 6 = 5) : INV L (gUp (gUp (gUp M 57 9 k) 57 6 6) 57 3 (if k = 60 ∨ k = 61 ∨ k = 62 then 0 else 1)) := by
  obtain ⟨iT, iS, iN, iO, iZ, iR, iQ, iH, iC, i8⟩ := I
  obtain ⟨C, ho, hz, hE, hr, ht, h7, h5, h6⟩ := iC (by omega)
  have R1 : RLS True (M 57 12) (M 68 15) (M 70) (M 71) (M 72) (M 73) := fun r a b c => iR r a b (fun _ => c trivial)
  rw [h0, if_neg (by omega), Int.add_zero] at C
  rw [h0, if_neg (by omega), if_neg (by omega)] at hz
  by_cases c : k = 60 ∨ k = 61 ∨ k = 62
  · rw [if_pos c]
    intro h9; clear h9
    refine IV_in (s := 6) iT iN iO iZ R1 rfl (by omega) ?_
    show CON 6 (M 57 12) (M 57 17) (M 57 14) (M 57 15) (M 68 15) (M 57 13) (M 57 11) (M 57 8) k (M 70) (M 71) (M 67) (M 72) (M 73)
    refine ⟨?_, ho, by rw [if_neg (by omega), if_neg (by omega)]; omega, hE, hr, ht, fun q => by omega, fun _ => h5 (by omega), fun _ => c⟩
    rw [if_neg (by omega), Int.add_zero]
    exact C
  · rw [if_neg c]
    exact INV_f (by first | exact (by decide : (1 : Int) ≠ 0) | exact (by decide : (2 : Int) ≠ 0) | exact (by decide : (3 : Int) ≠ 0) | exact (by decide : (4 : Int) ≠ 0))
theorem IV_cmp {L v : Int} {M : gH} (I : INVb L M) (h0 : M 57 6 = 6) : INV L (gUp (LTA M (M 57 8) (M 57 9) v) 57 3 0) := by
  obtain ⟨iT, iS, iN, iO, iZ, iR, iQ, iH, iC, i8⟩ := I
  obtain ⟨C, ho, hz, hE, hr, ht, h7, h5, h6⟩ := iC (by omega)
  have R1 : RLS True (M 57 12) (M 68 15) (M 70) (M 71) (M 72) (M 73) := fun r a b c => iR r a b (fun _ => c trivial)
  rw [h0, if_neg (by omega), Int.add_zero] at C
  rw [h0, if_neg (by omega), if_neg (by omega)] at hz
  have a5 := h5 (by omega)
  exact IV_LTA iT iN iO iZ R1 C ho hz hE hr ht a5.2 ⟨fun _ => h6 h0, fun q => absurd a5.1 q⟩
theorem IV_LTF {L k : Int} {M : gH} (iT : TKI (M 66 0) (M 66 1) (M 66 2) (M 66 4) L) (iN : NUM (M 68 2) (M 66 4) (M 68 3) (M 68 4) (M 68 5) (M 68 6) (M 68 7) (M 68 8) (M 69)) (iO : 0 ≤ M 57 13 ∧ M 57 13 ≤ 60) (iZ : 0 ≤ M 68 15) (iR : RLS False 0 (M 68 15) (M 70) (M 71) (M 72) (M 73)) (iQ : M 68 15 ≤ 2 * M 57 13) (hp : k ≠ 0 → M 68 2 + 1 ≤ M 66 4 ∧ M 68 2 + 1 ≤ 500) : INV L (gUp (LTF M k).1 57 3 (LTF M k).2) := by
  unfold LTF
  split
  · exact INV_f (by first | exact (by decide : (1 : Int) ≠ 0) | exact (by decide : (2 : Int) ≠ 0) | exact (by decide : (3 : Int) ≠ 0) | exact (by decide : (4 : Int) ≠ 0))
  · rename_i hk
    intro h9; clear h9
    obtain ⟨n1, n2, n3⟩ := iN
    refine IV_out (s := 0) iT ⟨?_, ?_, n3⟩ iO iZ iR iQ rfl (by omega) (fun a b => by omega) (fun a => by omega)
    · show 0 ≤ M 68 2 + 1
      omega
    · exact hp (by omega)
theorem IV_LTS {L k v : Int} {M : gH} (I : INVb L M) (h0 : M 57 6 = 8) : INV L (gUp (LTS M k v).1 57 3 (LTS M k v).2) := by
  obtain ⟨iT, iS, iN, iO, iZ, iR, iQ, iH, iC, i8⟩ := I
  have w8 := i8 h0
  unfold LTS
  split
  · exact INV_f (by first | exact (by decide : (1 : Int) ≠ 0) | exact (by decide : (2 : Int) ≠ 0) | exact (by decide : (3 : Int) ≠ 0) | exact (by decide : (4 : Int) ≠ 0))
  · split
    · exact INV_f (by first | exact (by decide : (1 : Int) ≠ 0) | exact (by decide : (2 : Int) ≠ 0) | exact (by decide : (3 : Int) ≠ 0) | exact (by decide : (4 : Int) ≠ 0))
    · rename_i hv
      intro h9; clear h9
      have hv1 : ¬ v < gb (M 57 8 = 22 ∨ M 57 8 = 24) := fun q => hv (Or.inl q)
      have hv2 : ¬ GRF (M 57 8) < v := fun q => hv (Or.inr q)
      obtain ⟨n1, n2, n3, n4, m4, m5, m6, m7, m8⟩ := iN
      unfold GRF at hv2
      rcases (show M 57 8 = 8 ∨ M 57 8 = 22 ∨ M 57 8 = 23 ∨ M 57 8 = 24 ∨ M 57 8 = 25 by omega) with e | e | e | e | e
      all_goals
        rw [e] at hv1 hv2
      · have ej : stJ (M 57 8) = 4 := by rw [e]; rfl
        rw [ej]
        have hb : 0 ≤ v ∧ v ≤ 4 := ⟨by have := hv1; rw [gb_f (by omega)] at this; omega, by have : ¬ (4 : Int) < v := hv2; omega⟩
        exact IV_out (s := 9) iT ⟨n1, n2, n3, n4, hb, m5, m6, m7, m8⟩ iO iZ (fun r a b _ => iR r a b (fun q => by omega)) (iQ (by omega)) rfl (by omega) (fun a b => by omega) (fun a => by omega)
      · have ej : stJ (M 57 8) = 5 := by rw [e]; rfl
        rw [ej]
        have hb : 1 ≤ v ∧ v ≤ 999 := ⟨by have := hv1; rw [gb_t (by omega)] at this; omega, by have : ¬ (999 : Int) < v := hv2; omega⟩
        exact IV_out (s := 9) iT ⟨n1, n2, n3, n4, m4, hb, m6, m7, m8⟩ iO iZ (fun r a b _ => iR r a b (fun q => by omega)) (iQ (by omega)) rfl (by omega) (fun a b => by omega) (fun a => by omega)
      · have ej : stJ (M 57 8) = 6 := by rw [e]; rfl
        rw [ej]
        have hb : 0 ≤ v ∧ v ≤ 3650 := ⟨by have := hv1; rw [gb_f (by omega)] at this; omega, by have : ¬ (3650 : Int) < v := hv2; omega⟩
        exact IV_out (s := 9) iT ⟨n1, n2, n3, n4, m4, m5, hb, m7, m8⟩ iO iZ (fun r a b _ => iR r a b (fun q => by omega)) (iQ (by omega)) rfl (by omega) (fun a b => by omega) (fun a => by omega)
      · have ej : stJ (M 57 8) = 7 := by rw [e]; rfl
        rw [ej]
        have hb : 1 ≤ v ∧ v ≤ 999 := ⟨by have := hv1; rw [gb_t (by omega)] at this; omega, by have : ¬ (999 : Int) < v := hv2; omega⟩
        exact IV_out (s := 9) iT ⟨n1, n2, n3, n4, m4, m5, m6, hb, m8⟩ iO iZ (fun r a b _ => iR r a b (fun q => by omega)) (iQ (by omega)) rfl (by omega) (fun a b => by omega) (fun a => by omega)
      · have ej : stJ (M 57 8) = 8 := by rw [e]; rfl
        rw [ej]
        have hb : 0 ≤ v ∧ v ≤ 12 := ⟨by have := hv1; rw [gb_f (by omega)] at this; omega, by have : ¬ (12 : Int) < v := hv2; omega⟩
        exact IV_out (s := 9) iT ⟨n1, n2, n3, n4, m4, m5, m6, m7, hb⟩ iO iZ (fun r a b _ => iR r a b (fun q => by omega)) (iQ (by omega)) rfl (by omega) (fun a b => by omega) (fun a => by omega)
