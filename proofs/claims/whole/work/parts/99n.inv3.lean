/-! the reading's state: links; each token; the traces -/
theorem top_14 {W : Int → Int} {w m x : Int} (S : STK W w) (hx : x = 15 ∨ x = 16) (N : LKS W x w m) (ht : 0 < w → W (w - 1) ≠ 14) (h0 : 0 < m) : W (m - 1) ≠ 14 := by
  obtain ⟨n1, n2, n3⟩ := N
  intro e
  by_cases c : m = w
  · rw [c] at e; exact ht (by omega) e
  · have a := (S m (by omega) (by omega)).2 h0
    have b := n2 m (by omega) (by omega)
    have := a.1 e
    omega
theorem CND.waitL {r w d br b z h x : Int} {W mk sg : Int → Int} (C : CND r w d br b z h W mk sg) (hx : x = 15 ∨ x = 16) (h14 : 0 < w → W (w - 1) ≠ 14) (hl : 0 < w → W (w - 1) ≠ 15 ∧ W (w - 1) ≠ x) : CND r (w + 1) d br b z h (updI W w x) mk sg ∧ oth (updI W w x) (w + 1).toNat = oth W w.toNat := by
  have k := C.wait (x := x) (by omega) (fun q => ⟨fun e => absurd e (h14 q), fun e => absurd e (hl q).1, fun e => by have := (hl q).2; omega⟩)
  rw [if_neg (show ¬ (x = 14 ∨ x = 40) by omega), if_neg (show ¬ x = 40 by omega)] at k
  refine ⟨?_, by have := k.2; omega⟩
  have k1 := k.1
  rw [show d + 0 = d from Int.add_zero d, show br + 0 = br from Int.add_zero br] at k1
  exact k1
theorem IV_and {L x : Int} {M : gH} (I : INVb L M) (h0 : M 57 6 = 7) (hx : x = 15 ∨ x = 16) : INV L (gUp (gUp (AWT (CLS M x) x) 57 6 4) 57 3 0) := by
  obtain ⟨iT, iS, iN, iO, iZ, iR, iQ, iH, iC, i8⟩ := I
  obtain ⟨C, ho, hz, hE, hr, ht, h7, h5, h6⟩ := iC (by omega)
  have R1 : RLS True (M 57 12) (M 68 15) (M 70) (M 71) (M 72) (M 73) := fun r a b c => iR r a b (fun _ => c trivial)
  rw [h0, if_pos rfl] at C
  rw [h0, if_pos rfl] at hz
  have t7 := h7 h0
  have lk := oth_lkI C.1 C.2.1
  have c1 := C.1
  have N := lkF_at (W := M 67) (x := x) c1
  have P := C.links (by omega) hx N
  have o := oth_links hx N
  have nn := N.1
  have t14 := top_14 C.2.1 hx N t7
  have q1 : (CLS M x) 57 17 = lkF (M 67) x (M 57 17).toNat := rfl
  have q3 : (CLS M x) 68 15 = M 68 15 + (M 57 17 - lkF (M 67) x (M 57 17).toNat) := rfl
  have q4 : (CLS M x) 72 = rvf (M 72) (M 68 15) (M 57 17 - lkF (M 67) x (M 57 17).toNat) (M 67) (M 57 17) := rfl
  have q5 : (CLS M x) 73 = pfl (M 73) (M 68 15) (M 57 17 - lkF (M 67) x (M 57 17).toNat) 0 := rfl
  have q6 : (CLS M x) 67 = M 67 := rfl
  have q66 : (CLS M x) 66 = M 66 := rfl
  have q69 : (CLS M x) 69 = M 69 := rfl
  have q70 : (CLS M x) 70 = M 70 := rfl
  have q71 : (CLS M x) 71 = M 71 := rfl
  have q57 : (CLS M x) 57 13 = M 57 13 ∧ (CLS M x) 57 12 = M 57 12 ∧ (CLS M x) 57 14 = M 57 14 ∧ (CLS M x) 57 15 = M 57 15 ∧ (CLS M x) 57 11 = M 57 11 ∧ (CLS M x) 57 8 = M 57 8 ∧ (CLS M x) 57 9 = M 57 9 := ⟨rfl, rfl, rfl, rfl, rfl, rfl, rfl⟩
  have q68 : (CLS M x) 68 2 = M 68 2 ∧ (CLS M x) 68 3 = M 68 3 ∧ (CLS M x) 68 4 = M 68 4 ∧ (CLS M x) 68 5 = M 68 5 ∧ (CLS M x) 68 6 = M 68 6 ∧ (CLS M x) 68 7 = M 68 7 ∧ (CLS M x) 68 8 = M 68 8 := ⟨rfl, rfl, rfl, rfl, rfl, rfl, rfl⟩
  generalize CLS M x = Y at *
  generalize lkF (M 67) x (M 57 17).toNat = m at *
  intro h9; clear h9
  have W1 := P.waitL hx t14 N.2.2
  obtain ⟨p1, p2, p3, p4, p5, p6, p7⟩ := q57
  obtain ⟨s1, s2, s3, s4, s5, s6, s7⟩ := q68
  refine IV_in (s := 4) ?_ ?_ ?_ ?_ (fun q a b c => ?_) rfl (by omega) ?_
  · show TKI (Y 66 0) (Y 66 1) (Y 66 2) (Y 66 4) L
    rw [q66]; exact iT
  · show NUM (Y 68 2) (Y 66 4) (Y 68 3) (Y 68 4) (Y 68 5) (Y 68 6) (Y 68 7) (Y 68 8) (Y 69)
    rw [q66, s1, s2, s3, s4, s5, s6, s7, q69]; exact iN
  · show 0 ≤ Y 57 13 ∧ Y 57 13 ≤ 60
    rw [p1]; exact iO
  · show 0 ≤ Y 68 15
    rw [q3]; omega
  · have c2 : q ≠ Y 57 12 := c trivial
    rw [p2] at c2
    show RUL (Y 70 q) (Y 71 q) (Y 68 15) (Y 72) (Y 73) q
    rw [q70, q71, q3, q4, q5]
    exact (R1 q a b (fun _ => c2)).mono (by omega) (fun k h => rvf_lo h) (fun k h => pfl_lo h)
  · show CON 4 (Y 57 12) (Y 57 17 + 1) (Y 57 14) (Y 57 15) (Y 68 15) (Y 57 13) (Y 57 11) (Y 57 8) (Y 57 9) (Y 70) (Y 71) (updI (Y 67) (Y 57 17) x) (Y 72) (Y 73)
    rw [p1, p2, p3, p4, p5, p6, p7, q1, q3, q4, q5, q6, q70, q71]
    refine ⟨?_, by rw [W1.2]; omega, by rw [if_neg (by omega), if_pos rfl]; omega, hE, hr, ht, fun q => by omega, fun q => by omega, fun q => by omega⟩
    rw [if_neg (by omega), W1.2, show m + 1 - oth (M 67) m.toNat + 0 = m - oth (M 67) m.toNat + 1 by omega]
    exact W1.1
theorem links_br {M : gH} {L : Int} (I : INVb L M) (h0 : M 57 6 = 7) : (0 < M 57 15 → 1 ≤ lkF (M 67) 16 (M 57 17).toNat) ∧ (M 57 15 = 0 → lkF (M 67) 16 (M 57 17).toNat = 0) := by
  obtain ⟨iT, iS, iN, iO, iZ, iR, iQ, iH, iC, i8⟩ := I
  obtain ⟨C, ho, hz, hE, hr, ht, h7, h5, h6⟩ := iC (by omega)
  have N := lkF_at (W := M 67) (x := 16) C.1
  have o := oth_links (Or.inr rfl) N
  have c4 := C.2.2.2.1
  have tp := links_top C.2.1 N (h7 h0)
  have i0 := oth_in (M 67) (lkF (M 67) 16 (M 57 17).toNat).toNat
  have n1 := N.1
  constructor
  · intro q
    omega
  · intro q
    by_cases c : 0 < lkF (M 67) 16 (M 57 17).toNat
    · have := prn_0 c (tp c)
      omega
    · omega
theorem IV_unb {L : Int} {M : gH} (I : INVb L M) (h0 : M 57 6 = 7) (hb : 0 < M 57 15) : INV L (gUp (CNS (UNB M)) 57 3 0) := by
  have lb := (links_br I h0).1 hb
  obtain ⟨iT, iS, iN, iO, iZ, iR, iQ, iH, iC, i8⟩ := I
  obtain ⟨C, ho, hz, hE, hr, ht, h7, h5, h6⟩ := iC (by omega)
  have R1 : RLS True (M 57 12) (M 68 15) (M 70) (M 71) (M 72) (M 73) := fun r a b c => iR r a b (fun _ => c trivial)
  rw [h0, if_pos rfl] at C
  rw [h0, if_pos rfl] at hz
  have t7 := h7 h0
  have lk := oth_lkI C.1 C.2.1
  have c1 := C.1
  have N := lkF_at (W := M 67) (x := 16) c1
  intro h9; clear h9
  have P := C.links (by omega) (Or.inr rfl) N
  have o := oth_links (Or.inr rfl) N
  have nn := N.1
  have tp := links_top C.2.1 N t7
  generalize hm : lkF (M 67) 16 (M 57 17).toNat = m at *
  have U := P.unb (by omega) (tp (by omega))
  have N2 := ntF_at (W := M 67) (x := 14) (n := m - 1) (by omega)
  have nn2 := N2.1
  have o2 := oth_nots N2
  have i0 := oth_in (M 67) (m - 1).toNat
  have lk2 := oth_lkI (by omega) U.1.2.1
  have P2 := U.1.nots (m := ntF (M 67) 14 (m - 1).toNat) (by omega) (by omega) N2
  generalize hm2 : ntF (M 67) 14 (m - 1).toNat = m2 at *
  have k1 : (gUp (CNS (UNB M)) 57 3 0) 57 17 = m2 := by rw [← hm2, ← hm]; rfl
  have k2 : (gUp (CNS (UNB M)) 57 3 0) 57 14 = M 57 14 - 1 - (m - 1 - m2) := by rw [← hm2, ← hm]; rfl
  have k3 : (gUp (CNS (UNB M)) 57 3 0) 68 15 = M 68 15 + (M 57 17 - m) + (m - 1 - m2) := by rw [← hm2, ← hm]; rfl
  have k4 : (gUp (CNS (UNB M)) 57 3 0) 72 = pfl (rvf (M 72) (M 68 15) (M 57 17 - m) (M 67) (M 57 17)) (M 68 15 + (M 57 17 - m)) (m - 1 - m2) 14 := by rw [← hm2, ← hm]; rfl
  have k5 : (gUp (CNS (UNB M)) 57 3 0) 73 = pfl (pfl (M 73) (M 68 15) (M 57 17 - m) 0) (M 68 15 + (M 57 17 - m)) (m - 1 - m2) 0 := by rw [← hm2, ← hm]; rfl
  refine IV_in (s := 7) iT iN iO (by rw [k3]; omega) (fun q a b c => ?_) rfl (by omega) ?_
  · rw [k3, k4, k5]
    exact (R1 q a b c).mono (by omega) (fun k h => by rw [pfl_lo (by omega), rvf_lo h]) (fun k h => by rw [pfl_lo (by omega), pfl_lo h])
  · rw [k1, k2, k3, k4, k5]
    show CON 7 (M 57 12) m2 (M 57 14 - 1 - (m - 1 - m2)) (M 57 15 - 1) (M 68 15 + (M 57 17 - m) + (m - 1 - m2)) (M 57 13) (M 57 11) (M 57 8) (M 57 9) (M 70) (M 71) (M 67) _ _
    refine ⟨?_, by omega, by rw [if_pos rfl]; omega, hE, hr, ht, fun _ q => N2.2.2 q, fun q => by omega, fun q => by omega⟩
    rw [if_pos rfl, o2.1, U.2, show m2 - (oth (M 67) m.toNat - 1 - (m - 1 - m2)) + 1 = m - oth (M 67) m.toNat + 1 by omega]
    exact P2
theorem IV_fin {L k : Int} {M : gH} (I : INVb L M) (h0 : M 57 6 = 7) (hb : M 57 15 = 0) (hp : k ≠ 0 → M 68 2 + 1 ≤ M 66 4 ∧ M 68 2 + 1 ≤ 500) : INV L (gUp (LTF (FNR M) k).1 57 3 (LTF (FNR M) k).2) := by
  have lb := (links_br I h0).2 hb
  obtain ⟨iT, iS, iN, iO, iZ, iR, iQ, iH, iC, i8⟩ := I
  obtain ⟨C, ho, hz, hE, hr, ht, h7, h5, h6⟩ := iC (by omega)
  have R1 : RLS True (M 57 12) (M 68 15) (M 70) (M 71) (M 72) (M 73) := fun r a b c => iR r a b (fun _ => c trivial)
  rw [h0, if_pos rfl] at C
  rw [h0, if_pos rfl] at hz
  have lk := oth_lkI C.1 C.2.1
  have c1 := C.1
  have N := lkF_at (W := M 67) (x := 16) c1
  have P := C.links (by omega) (Or.inr rfl) N
  rw [lb] at P N
  have k3 : (FNR M) 68 15 = M 68 15 + (M 57 17 - 0) := by rw [← lb]; rfl
  have k4 : (FNR M) 72 = rvf (M 72) (M 68 15) (M 57 17 - 0) (M 67) (M 57 17) := by rw [← lb]; rfl
  have k5 : (FNR M) 73 = pfl (M 73) (M 68 15) (M 57 17 - 0) 0 := by
    have e : M 57 17 - 0 = M 57 17 - lkF (M 67) 16 (M 57 17).toNat := by rw [lb]
    rw [e]; rfl
  have k6 : (FNR M) 71 (M 57 12) = M 68 15 + (M 57 17 - 0) := by rw [← k3]; exact if_pos rfl
  have k7 : ∀ q, q ≠ M 57 12 → (FNR M) 71 q = M 71 q := fun q h => if_neg h
  obtain ⟨p1, p2, p3, p4, p5, p6, p7⟩ := P
  have hH : HGT (rvf (M 72) (M 68 15) (M 57 17 - 0) (M 67) (M 57 17)) (M 70 (M 57 12)) (M 68 15 + (M 57 17 - 0)) 1 := p6
  refine IV_LTF (M := FNR M) iT iN iO (by rw [k3]; omega) (fun q a b _ => ?_) (by rw [k3]; show M 68 15 + (M 57 17 - 0) ≤ 2 * M 57 13; omega) hp
  rw [k3, k4, k5]
  by_cases e : q = M 57 12
  · rw [e, k6]
    show RUL (M 70 (M 57 12)) _ _ _ _ _
    refine Or.inr ⟨p5, ?_, Int.le_refl _, hH, p7⟩
    by_cases c : M 70 (M 57 12) = M 68 15 + (M 57 17 - 0)
    · have q1 := hH.2.2
      rw [c, Int.sub_self] at q1
      exact absurd (show (0 : Int) = 1 from q1) (by decide)
    · have := hH.1
      omega
  · rw [k7 q e]
    exact (R1 q a b (fun _ => e)).mono (by omega) (fun k h => rvf_lo h) (fun k h => pfl_lo h)
theorem IV_TAK {L k v : Int} {M : gH} (I : INVb L M) (h0 : M 57 6 ≠ 10) (hp : k ≠ 0 → M 68 2 + 1 ≤ M 66 4 ∧ M 68 2 + 1 ≤ 500) : INV L (gUp (TAK M k v).1 57 3 (TAK M k v).2) := by
  have hS := I.2.1
  unfold TAK
  split
  · rename_i h
    split
    · exact IV_LTE I h
    · exact IV_LTR I h
  · split
    · rename_i h
      split
      · exact IV_wi I h
      · exact IV_LTI I (Or.inl h)
    · split
      · rename_i h
        exact IV_LTD I h
      · split
        · rename_i h
          exact IV_LTI I (Or.inr h)
        · split
          · rename_i h
            exact IV_LTO I h
          · split
            · rename_i h
              exact IV_sig I h
            · split
              · rename_i h
                split
                · exact INV_f (by first | exact (by decide : (1 : Int) ≠ 0) | exact (by decide : (2 : Int) ≠ 0) | exact (by decide : (3 : Int) ≠ 0) | exact (by decide : (4 : Int) ≠ 0))
                · exact IV_cmp I h
              · split
                · rename_i h
                  unfold LTL
                  split
                  · rename_i hx
                    exact IV_and I h hx
                  · split
                    · rename_i hx
                      exact IV_unb I h hx.2
                    · split
                      · rename_i hx
                        exact IV_fin I h hx.2 hp
                      · exact INV_f (by first | exact (by decide : (1 : Int) ≠ 0) | exact (by decide : (2 : Int) ≠ 0) | exact (by decide : (3 : Int) ≠ 0) | exact (by decide : (4 : Int) ≠ 0))
                · split
                  · rename_i h
                    exact IV_LTS I h
                  · rename_i a0 a1 a2 a3 a4 a5 a6 a7 a8
                    have h9 : M 57 6 = 9 := by omega
                    obtain ⟨iT, iS, iN, iO, iZ, iR, iQ, iH, iC, i8⟩ := I
                    exact IV_LTF iT iN iO iZ (fun r a b _ => iR r a b (fun q => by omega)) (iQ (by omega)) hp
/-! a token taken; runs of them -/
def ADV (S : gH) (a q k v : Int) : gH := gUp (gUp (gUp (gUp S 66 3 a) 66 4 q) 66 6 v) 66 5 k
def NXT (S : gH) (a q k v : Int) : gH := gUp (TAK (ADV S a q k v) k v).1 57 3 (TAK (ADV S a q k v) k v).2
def FIN (S : gH) : Prop := S 57 3 ≠ 0 ∨ S 57 6 = 10
def STEP (T : Int → Int) (L : Int) (S S' : gH) : Prop := ∃ a q k v, TOKN T L (EDG L) (S 66 4) a q k v ∧ S' = NXT S a q k v
def TRC (T : Int → Int) (L : Int) : Nat → gH → gH → Prop
  | 0, S, S' => S = S'
  | n + 1, S, S' => ∃ M, TRC T L n S M ∧ ¬ FIN M ∧ STEP T L M S'
theorem STEP.one {T : Int → Int} {L : Int} {S A B : gH} (h : STEP T L S A) (h' : STEP T L S B) : A = B := by
  obtain ⟨a, q, k, v, t, e⟩ := h
  obtain ⟨a', q', k', v', t', e'⟩ := h'
  obtain ⟨e1, e2, e3, e4⟩ := TOKN_one (EDG_le L) t t'
  rw [e, e', e1, e2, e3, e4]
theorem TRC.one {T : Int → Int} {L : Int} {S : gH} : ∀ {n : Nat} {A B : gH}, TRC T L n S A → TRC T L n S B → A = B
  | 0, _, _, h, h' => h.symm.trans h'
  | n + 1, A, B, h, h' => by
    obtain ⟨M, m1, m2, m3⟩ := h
    obtain ⟨M', m1', m2', m3'⟩ := h'
    have e := TRC.one m1 m1'
    subst e
    exact m3.one m3'
theorem TRC.pre {T : Int → Int} {L : Int} {S : gH} {n : Nat} : ∀ {d : Nat} {B : gH}, TRC T L (n + (d + 1)) S B → ∃ M, TRC T L n S M ∧ ¬ FIN M
  | 0, B, h => by
    obtain ⟨M, m1, m2, _⟩ := h
    exact ⟨M, m1, m2⟩
  | d + 1, B, h => by
    obtain ⟨M, m1, _, _⟩ := h
    exact TRC.pre (d := d) m1
/-- the run from S comes to one end -/
def RCH (T : Int → Int) (L : Int) (S A : gH) : Prop := ∃ n, TRC T L n S A
theorem RCH.one {T : Int → Int} {L : Int} {S A B : gH} (h : RCH T L S A) (hA : FIN A) (h' : RCH T L S B) (hB : FIN B) : A = B := by
  obtain ⟨n, t⟩ := h
  obtain ⟨m, t'⟩ := h'
  rcases Nat.lt_trichotomy n m with l | l | l
  · obtain ⟨M, m1, m2⟩ := TRC.pre (n := n) (d := m - n - 1) (by rw [show n + (m - n - 1 + 1) = m by omega]; exact t')
    exact absurd (t.one m1 ▸ hA) m2
  · subst l
    exact t.one t'
  · obtain ⟨M, m1, m2⟩ := TRC.pre (n := m) (d := n - m - 1) (by rw [show m + (n - m - 1 + 1) = n by omega]; exact t)
    exact absurd (t'.one m1 ▸ hB) m2
theorem RCH.s {T : Int → Int} {L : Int} {S A B : gH} (h : RCH T L S A) (hA : ¬ FIN A) (hs : STEP T L A B) : RCH T L S B := by
  obtain ⟨n, t⟩ := h
  exact ⟨n + 1, A, t, hA, hs⟩
theorem DEC_nn {B : Int → Int} : ∀ {n : Nat}, (∀ i : Int, 0 ≤ i → i < n → dgt (B i)) → 0 ≤ DEC B n
  | 0, _ => Int.le_refl _
  | n + 1, h => by
    have ih := DEC_nn (fun i a b => h i a (by omega)) (n := n)
    have d := h n (by omega) (by omega)
    show 0 ≤ DEC B n * 10 + B n - 48
    omega
/-- what a token tells of its places -/
theorem TOKN_in {T : Int → Int} {L p a q k v : Int} (hp : 0 ≤ p ∧ p ≤ L) (h : TOKN T L (EDG L) p a q k v) : 0 ≤ q ∧ q ≤ L ∧ (k ≠ 0 → p < q ∧ a < EDG L ∧ p ≤ a) ∧ (k = 2 → -1 ≤ v ∧ v ≤ 25) ∧ -1 ≤ v ∧ (k = 0 ∨ k = 1 ∨ k = 2 ∨ k = 3 ∨ sgn k) ∧ (k = 0 → a = EDG L ∧ q = EDG L) ∧ (k ≠ 3 → k ≠ 2 → v = -1) := by
  have hE := EDG_in L
  rcases h with ⟨h1, h2, h3, h4, h5⟩ | ⟨h1, h2, h3, h4, h5⟩
  · subst h4 h5 h2 h3
    exact ⟨by omega, by omega, fun c => absurd rfl c, fun c => by omega, by omega, by omega, fun _ => ⟨rfl, rfl⟩, fun _ _ => rfl⟩
  · rcases h5 with ⟨x1, x2, x3⟩ | ⟨x1, x2, x3, x4⟩
    · have hlt : a < q := by
        rcases x3 with x3 | x3 | x3
        · by_cases c : a = q
          · have := x2.2.2.2 (by omega)
            rw [← c] at this
            exact absurd x1 this
          · have := x2.1; omega
        · exact x3.2.1
        · obtain ⟨⟨i, i1, i2, _⟩, _⟩ := x3
          omega
      rcases x3 with x3 | x3 | x3
      · have kv : -1 ≤ v ∧ v ≤ 25 := by
          rcases x3.2.2 with y | ⟨i, i0, i1, w, y⟩
          · omega
          · have K := (KC_tab ⟨i.toNat, by omega⟩ (by show gCh ((i.toNat : Nat) : Int) = 32; rw [show ((i.toNat : Nat) : Int) = i by omega]; exact w.1)).2.2.2.2.1
            have W := (wcn_in i.toNat).1
            have K2 : wcn i.toNat ≤ 25 := K
            omega
        exact ⟨by omega, x2.2.1, fun _ => by omega, fun _ => kv, kv.1, by omega, fun c => by omega, fun _ c => by omega⟩
      · have dn : 0 ≤ v := by
          obtain ⟨y1, y2, y3, y4, y5⟩ := x3
          rw [y5]
          exact DEC_nn (fun i a1 a2 => y1 (a + i) (by omega) (by omega))
        exact ⟨by omega, x2.2.1, fun _ => by omega, fun c => by omega, by omega, by omega, fun c => by omega, fun c => by omega⟩
      · obtain ⟨_, _, x4, x5⟩ := x3
        exact ⟨by omega, x2.2.1, fun _ => by omega, fun c => by omega, by omega, by omega, fun c => by omega, fun _ _ => x5⟩
    · rcases x4 with x4 | x4
      · refine ⟨by omega, by omega, fun _ => by omega, fun c => by have := x4.1; omega, by omega, ?_, fun c => by have := x4.1; omega, fun _ _ => x3⟩
        rw [x4.2]
        exact Or.inr (Or.inr (Or.inr (Or.inr x4.1)))
      · exact ⟨by omega, by omega, fun _ => by omega, fun c => by omega, by omega, by omega, fun c => by omega, fun _ _ => x3⟩
theorem INV_adv {L a q k v : Int} {T : Int → Int} {S : gH} (I : INVb L S) (t : TOKN T L (EDG L) (S 66 4) a q k v) : INVb L (ADV S a q k v) ∧ (k ≠ 0 → S 68 2 + 1 ≤ q ∧ S 68 2 + 1 ≤ 500) := by
  obtain ⟨iT, iS, iN, iO, iZ, iR, iQ, iH, iC, i8⟩ := I
  obtain ⟨t1, t2, t3, t4, t5⟩ := iT
  obtain ⟨n1, n2, n3⟩ := iN
  have m := TOKN_in ⟨t4, t5⟩ t
  have hE := EDG_in L
  obtain ⟨m1, m2, m3, m4, m5, m6, m7, m8⟩ := m
  have hru : S 68 2 ≤ q := by
    by_cases c : k = 0
    · have := m7 c
      omega
    · have := m3 c
      omega
  exact ⟨⟨⟨t1, t2, t3, m1, m2⟩, iS, ⟨n1, ⟨hru, n2.2⟩, n3⟩, iO, iZ, iR, iQ, iH, iC, i8⟩, fun c => by have := m3 c; omega⟩
theorem INV.step {L : Int} {T : Int → Int} {S S' : gH} (I : INV L S) (hf : ¬ FIN S) (h : STEP T L S S') : INV L S' := by
  obtain ⟨a, q, k, v, t, e⟩ := h
  have f0 : S 57 3 = 0 := Classical.not_not.mp fun c => hf (Or.inl c)
  have A := INV_adv (I f0) t
  rw [e]
  exact IV_TAK A.1 (fun c => hf (Or.inr c)) A.2
theorem INV.trc {L : Int} {T : Int → Int} {S : gH} (I : INV L S) : ∀ {n : Nat} {A : gH}, TRC T L n S A → INV L A
  | 0, A, h => h ▸ I
  | n + 1, A, h => by
    obtain ⟨M, m1, m2, m3⟩ := h
    exact (I.trc m1).step m2 m3
theorem RCH.inv {L : Int} {T : Int → Int} {S A : gH} (h : RCH T L S A) (I : INV L S) : INV L A := by
  obtain ⟨n, t⟩ := h
  exact I.trc t
