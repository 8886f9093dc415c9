/-! the reference's conditions follow the class's: links, brackets, the end -/
/-- the links laid from the pile's end down to m -/
def DRP (σ : gH) (m : Int) : gH := gUp (gUr (gUp σ 133 79 m) 180 (rvf (σ 180) (1200 + σ 133 83) (σ 133 79 - m) (σ 186) (σ 133 79))) 133 83 (σ 133 83 + (σ 133 79 - m))
theorem RLC.links {L x m : Int} {σ0 X σ : gH} (R : RLC L σ0 X σ) (S : STK (X 67) (X 57 17)) (h0 : 0 ≤ X 57 17) (hz : 0 ≤ X 68 15) (hx : x = 15 ∨ x = 16) (em : m = lkF (X 67) x (X 57 17).toNat) : RLC L σ0 (CLS X x) (DRP σ m) := by
  obtain ⟨⟨r1, r2, r3, r4, r5, r6, r7, r8, r9⟩, ⟨p1, p2, p3, p4⟩, s3, s4⟩ := R
  have N := lkF_at (W := X 67) (x := x) h0
  rw [← em] at N
  obtain ⟨N1, N2, N3⟩ := N
  have K : KR σ0 (DRP σ m) := ((r1.up (k := 133) (i := 79) rfl).ur (k := 180) (fun i hi => rvf_lo (by have := isR_lo hi; omega))).up rfl
  refine ⟨⟨K, r2, r3, ?_, ?_, r6, r7, r8, r9⟩, ⟨?_, p2, p3, ?_⟩, s3, s4⟩
  · show σ 133 83 + (σ 133 79 - m) = X 68 15 + (X 57 17 - lkF (X 67) x (X 57 17).toNat)
    rw [r4, p1, em]
  · show MKR (X 68 15 + (X 57 17 - lkF (X 67) x (X 57 17).toNat)) (rvf (X 72) (X 68 15) (X 57 17 - lkF (X 67) x (X 57 17).toNat) (X 67) (X 57 17)) (pfl (X 73) (X 68 15) (X 57 17 - lkF (X 67) x (X 57 17).toNat) 0) (pfl (X 74) (X 68 15) (X 57 17 - lkF (X 67) x (X 57 17).toNat) 0) (rvf (σ 180) (1200 + σ 133 83) (σ 133 79 - m) (σ 186) (σ 133 79)) (σ 181) (σ 182)
    rw [← em, p1, r4]
    intro k a b
    by_cases c : k < X 68 15
    · rw [rvf_lo (by omega), rvf_lo c, pfl_lo c, pfl_lo c]
      exact r5 k a c
    · have e1 : rvf (σ 180) (1200 + X 68 15) (X 57 17 - m) (σ 186) (X 57 17) (1200 + k) = σ 186 (X 57 17 - 1 - (k - X 68 15)) := by
        show (if 1200 + X 68 15 ≤ 1200 + k ∧ 1200 + k < 1200 + X 68 15 + (X 57 17 - m) then σ 186 (X 57 17 - 1 - (1200 + k - (1200 + X 68 15))) else σ 180 (1200 + k)) = _
        rw [if_pos (by omega), show X 57 17 - 1 - (1200 + k - (1200 + X 68 15)) = X 57 17 - 1 - (k - X 68 15) by omega]
      have e2 : rvf (X 72) (X 68 15) (X 57 17 - m) (X 67) (X 57 17) k = X 67 (X 57 17 - 1 - (k - X 68 15)) := if_pos (by omega)
      have w := N2 (X 57 17 - 1 - (k - X 68 15)) (by omega) (by omega)
      rw [e1, e2, p4 _ (by omega) (by omega)]
      refine ⟨?_, fun q => by omega⟩
      exact (rnP_of (by omega)).2.2.2.2 (by omega)
  · exact em
  · intro k a b
    have b2 : k < lkF (X 67) x (X 57 17).toNat := b
    exact p4 k a (by omega)
/-- the bracket waits no more -/
theorem RLC.unb {L m : Int} {σ0 X σ : gH} (R : RLC L σ0 (CLS X 16) σ) (em : m = lkF (X 67) 16 (X 57 17).toNat) {t o p : Int} (ht : t = m - 1) (ho : o = X 57 14 - 1 - 1) (hp : p = X 57 15 - 1) : RLC L σ0 (UNB X) (gUp (gUp (gUp σ 133 79 t) 133 80 o) 133 81 p) := by
  obtain ⟨⟨r1, r2, r3, r4, r5, r6, r7, r8, r9⟩, ⟨p1, p2, p3, p4⟩, s3, s4⟩ := R
  subst ht ho hp
  refine ⟨⟨((r1.up rfl).up rfl).up rfl, r2, r3, r4, r5, r6, r7, r8, r9⟩, ⟨?_, rfl, rfl, ?_⟩, s3, s4⟩
  · show m - 1 = lkF (X 67) 16 (X 57 17).toNat - 1
    rw [em]
  · intro k a b
    have b2 : k < lkF (X 67) 16 (X 57 17).toNat - 1 := b
    exact p4 k a (by show k < lkF (X 67) 16 (X 57 17).toNat; omega)
theorem RLC.wh {L v : Int} {σ0 S σ : gH} (R : RLC L σ0 S σ) : RLC L σ0 S (gUp σ 133 84 v) := by
  obtain ⟨⟨r1, r2, r3, r4, r5, r6, r7, r8, r9⟩, s2, s3, s4⟩ := R
  exact ⟨⟨r1.up rfl, r2, r3, r4, r5, r6, r7, r8, r9⟩, s2, s3, s4⟩
/-- in a condition still: where the loop of both stands -/
def RCI (T : Int → Int) (L : Int) (σ0 S0 S S' σ' : gH) : Prop := RCH T L S0 S' ∧ ¬ FIN S' ∧ RLC L σ0 S' σ' ∧ MTK T L (S' 66 4) σ' ∧ S 66 4 ≤ S' 66 4 ∧ S' 57 12 = S 57 12 ∧ S' 57 11 = S 57 11 ∧ S' 68 2 = S 68 2
/-- the rule is done on both sides -/
def RDN (T : Int → Int) (L : Int) (σ0 S0 S σ' : gH) : Prop := ∃ S', RCH T L S0 S' ∧ ¬ FIN S' ∧ S' 57 6 = 0 ∧ RLB L σ0 S' σ' False 0 ∧ σ' 175 6 = S' 68 3 ∧ σ' 133 55 = S' 66 4 ∧ S 66 4 < S' 66 4 ∧ S' 68 2 = S 68 2 + 1
/-- a link read on both sides -/
theorem RC_and {T : Int → Int} {L a q k v x y m : Int} {σ0 S0 S Sl σ σ' : gH} (I0 : INV L S0) (C : RCI T L σ0 S0 S Sl σ) (h7 : Sl 57 6 = 7) (t : TKS T L (Sl 66 4) a q k v σ) (hx : x = 15 ∨ x = 16) (hw : wdO k v = x) (em : m = lkF (Sl 67) x (Sl 57 17).toNat) (hy : y = rnP x) (hk : KG (PSH (DRP σ m) y) σ') (hm : MTK T L q σ') :
    ∃ S', RCI T L σ0 S0 S S' (gUp σ' 133 84 0) ∧ S' 57 6 = 4 ∧ Sl 66 4 < S' 66 4 ∧ MTK T L (S' 66 4) (gUp σ' 133 84 0) := by
  obtain ⟨c1, c2, c3, c4, c5, c6, c7, c8⟩ := C
  have f0 : Sl 57 3 = 0 := Classical.not_not.mp fun c => c2 (Or.inl c)
  have I := (c1.inv I0) f0
  obtain ⟨CC, _⟩ := I.2.2.2.2.2.2.2.2.1 (by omega)
  have tin := TOKN_in I.1.2.2.2 t.1
  have hk2 : k = 2 := wdO_k (w := x) (by omega) hw
  have eN : NXT Sl a q k v = gUp (gUp (AWT (CLS (ADV Sl a q k v) x) x) 57 6 4) 57 3 0 := by
    unfold NXT
    rw [TAK_7 (M := ADV Sl a q k v) h7]
    unfold LTL
    rw [hw, if_pos hx]
  have R1 : RLC L σ0 (CLS (ADV Sl a q k v) x) (DRP σ m) := RLC.links (X := ADV Sl a q k v) c3 CC.2.1 CC.1 I.2.2.2.2.1 hx em
  have N := (lkF_at (W := Sl 67) (x := x) CC.1).1
  have R2 := R1.psh (x := x) (y := y) N.1 (by omega) hy (D := Sl 57 14) (B := Sl 57 15) (by
    show Sl 57 14 = Sl 57 14 + _
    rw [if_neg (by omega)]; omega) (by
    show Sl 57 15 = Sl 57 15 + _
    rw [if_neg (by omega)]; omega) rfl
  have R3 := (R2.kg hk).wh (v := 0)
  have hm2 : MTK T L q (gUp σ' 133 84 0) := hm.keep fun j hj => if_neg (by omega)
  refine ⟨NXT Sl a q k v, ⟨c1.s c2 ⟨a, q, k, v, t.1, rfl⟩, ?_, ?_, ?_, ?_, ?_, ?_, ?_⟩, ?_, ?_, ?_⟩
  · rw [eN]; exact FIN_not (s := 4) rfl (by decide)
  · rw [eN]
    obtain ⟨⟨r1, r2, r3, r4, r5, r6, r7, r8, r9⟩, ⟨p1, p2, p3, p4⟩, s3, s4⟩ := R3
    exact ⟨⟨r1, r2, r3, r4, r5, r6, r7, r8, r9⟩, ⟨p1, p2, p3, p4⟩, s3, s4⟩
  · rw [NXT_66]; exact hm2
  · rw [NXT_66]; have := tin.2.2.1 (by omega); omega
  · rw [eN]; exact c6
  · rw [eN]; exact c7
  · rw [eN]; exact c8
  · rw [eN]; rfl
  · rw [NXT_66]; have := tin.2.2.1 (by omega); omega
  · rw [NXT_66]; exact hm2
/-- a bracket closed on both sides -/
theorem RC_unb {T : Int → Int} {L a q k v m m2 t0 o p : Int} {σ0 S0 S Sl σ σg : gH} (I0 : INV L S0) (C : RCI T L σ0 S0 S Sl σ) (h7 : Sl 57 6 = 7) (t : TKS T L (Sl 66 4) a q k v σ) (hk41 : k = 41) (hb : 0 < Sl 57 15) (em : m = lkF (Sl 67) 16 (Sl 57 17).toNat) (ht : t0 = m - 1) (ho : o = σ 133 80 - 1) (hp : p = σ 133 81 - 1)
    (hk : KG (gUp (gUp (gUp (DRP σ m) 133 79 t0) 133 80 o) 133 81 p) σg) (hm : MTK T L q σg) (N : NTS (σg 186) 20 (σg 133 79) m2) :
    ∃ S', RCI T L σ0 S0 S S' (gUp (gUp (gUr (gUp σg 133 79 m2) 180 (pfl (σg 180) (1200 + σg 133 83) (σg 133 79 - m2) 20)) 133 83 (σg 133 83 + (σg 133 79 - m2))) 133 80 (σg 133 80 - (σg 133 79 - m2))) ∧ S' 57 6 = 7 ∧ Sl 66 4 < S' 66 4 := by
  obtain ⟨c1, c2, c3, c4, c5, c6, c7, c8⟩ := C
  have f0 : Sl 57 3 = 0 := Classical.not_not.mp fun c => c2 (Or.inl c)
  have I := (c1.inv I0) f0
  have lb := (links_br I h7).1 hb
  obtain ⟨CC, _⟩ := I.2.2.2.2.2.2.2.2.1 (by omega)
  have tin := TOKN_in I.1.2.2.2 t.1
  have hw : wdO k v = -1 := if_neg (by omega)
  have eN : NXT Sl a q k v = gUp (CNS (UNB (ADV Sl a q k v))) 57 3 0 := by
    unfold NXT
    rw [TAK_7 (M := ADV Sl a q k v) h7]
    unfold LTL
    rw [hw, if_neg (by omega), if_pos ⟨hk41, hb⟩]
  have R1 : RLC L σ0 (CLS (ADV Sl a q k v) 16) (DRP σ m) := RLC.links (X := ADV Sl a q k v) c3 CC.2.1 CC.1 I.2.2.2.2.1 (Or.inr rfl) em
  have N0 := (lkF_at (W := Sl 67) (x := 16) CC.1).1
  have R2 : RLC L σ0 (UNB (ADV Sl a q k v)) (gUp (gUp (gUp (DRP σ m) 133 79 t0) 133 80 o) 133 81 p) := RLC.unb (X := ADV Sl a q k v) R1 em ht (by rw [ho, c3.2.1.2.1]; rfl) (by rw [hp, c3.2.1.2.2.1]; rfl)
  have R3 := R2.kg hk
  have R4 : RLC L σ0 (gUp (CNS (UNB (ADV Sl a q k v))) 57 3 0) _ := R3.nots (m := m2) (CC.2.1.less (m := lkF (Sl 67) 16 (Sl 57 17).toNat - 1) (by omega)) (by show 0 ≤ lkF (Sl 67) 16 (Sl 57 17).toNat - 1; omega) (by show 0 ≤ Sl 68 15 + (Sl 57 17 - lkF (Sl 67) 16 (Sl 57 17).toNat); have := I.2.2.2.2.1; omega) N rfl
  refine ⟨NXT Sl a q k v, ⟨c1.s c2 ⟨a, q, k, v, t.1, rfl⟩, ?_, ?_, ?_, ?_, ?_, ?_, ?_⟩, ?_, ?_⟩
  · rw [eN]; exact FIN_not (s := 7) rfl (by decide)
  · rw [eN]; exact R4
  · rw [NXT_66]
    refine hm.keep fun j hj => ?_
    show (if j = 80 then _ else if j = 83 then _ else if j = 79 then _ else σg 133 j) = σg 133 j
    rw [if_neg (by omega), if_neg (by omega), if_neg (by omega)]
  · rw [NXT_66]; have := tin.2.2.1 (by omega); omega
  · rw [eN]; exact c6
  · rw [eN]; exact c7
  · rw [eN]; exact c8
  · rw [eN]; rfl
  · rw [NXT_66]; have := tin.2.2.1 (by omega); omega
/-- the rule's end on both sides -/
theorem RC_fin {T : Int → Int} {L a q k v m z : Int} {σ0 S0 S Sl σ : gH} (I0 : INV L S0) (C : RCI T L σ0 S0 S Sl σ) (h7 : Sl 57 6 = 7) (t : TKS T L (Sl 66 4) a q k v σ) (hk59 : k = 59) (hb : Sl 57 15 = 0) (em : m = 0) (hz : z = σ 133 83 + (σ 133 79 - m)) {c : Int} (hc : c = S 57 12) : RDN T L σ0 S0 S (gUp (DRP σ m) 179 (60 + c) z) := by
  obtain ⟨c1, c2, c3, c4, c5, c6, c7, c8⟩ := C
  have f0 : Sl 57 3 = 0 := Classical.not_not.mp fun c => c2 (Or.inl c)
  have I := (c1.inv I0) f0
  have lb := (links_br I h7).2 hb
  obtain ⟨CC, ho, hz1, hE, hr, htl, _⟩ := I.2.2.2.2.2.2.2.2.1 (by omega)
  have tin := TOKN_in I.1.2.2.2 t.1
  have hw : wdO k v = -1 := if_neg (by omega)
  have eN : NXT Sl a q k v = gUp (gUp (gUp (FNR (ADV Sl a q k v)) 68 2 ((FNR (ADV Sl a q k v)) 68 2 + 1)) 57 6 0) 57 3 0 := by
    unfold NXT
    rw [TAK_7 (M := ADV Sl a q k v) h7]
    unfold LTL
    rw [hw, if_neg (by omega), if_neg (by omega), if_pos ⟨hk59, hb⟩]
    unfold LTF
    rw [if_neg (by omega)]
  have R1 : RLC L σ0 (CLS (ADV Sl a q k v) 16) (DRP σ m) := RLC.links (X := ADV Sl a q k v) c3 CC.2.1 CC.1 I.2.2.2.2.1 (Or.inr rfl) (by rw [em]; exact lb.symm)
  have to := t.rest.2.2.2 (by omega)
  have hcr : c = Sl 57 12 := by rw [hc]; exact c6.symm
  have p1 := c3.2.1.1
  have p83 := c3.1.2.2.2.1
  have e178 := c3.2.2.1
  -- the rule isn't empty
  have hbz : Sl 70 (Sl 57 12) < Sl 68 15 + Sl 57 17 := by
    have H := CC.2.2.2.2.2.1
    have i0 := oth_in (Sl 67) (Sl 57 17).toNat
    have h1 := H.1
    have c0 := CC.1
    rw [h7, if_pos rfl] at H
    by_cases e : Sl 70 (Sl 57 12) = Sl 68 15
    · have h2 := H.2.2
      rw [e, Int.sub_self] at h2
      have h3 : (0 : Int) = Sl 57 17 - oth (Sl 67) (Sl 57 17).toNat + 1 := h2
      omega
    · omega
  have k3 : (FNR (ADV Sl a q k v)) 68 15 = Sl 68 15 + Sl 57 17 := by
    show Sl 68 15 + (Sl 57 17 - lkF (Sl 67) 16 (Sl 57 17).toNat) = _
    rw [lb]; omega
  obtain ⟨⟨r1, r2, r3, r4, r5, r6, r7, r8, r9⟩, _, s3, s4⟩ := R1
  have K : KR σ0 (gUp (DRP σ m) 179 (60 + c) z) := r1.up (isR_ft (Or.inr rfl) (by omega))
  refine ⟨NXT Sl a q k v, c1.s c2 ⟨a, q, k, v, t.1, rfl⟩, ?_, ?_, ?_, ?_, ?_, ?_, ?_⟩
  · rw [eN]; exact FIN_not (s := 0) rfl (by decide)
  · rw [eN]; rfl
  · rw [eN]
    refine ⟨K, r2, r3, r4, r5, r6, r7, r8, fun r a9 b9 _ => ?_⟩
    by_cases e : r = Sl 57 12
    · refine Or.inr ⟨?_, ?_, ?_⟩
      · rw [e]
        show Sl 70 (Sl 57 12) < (if Sl 57 12 = Sl 57 12 then (FNR (ADV Sl a q k v)) 68 15 else _)
        rw [if_pos rfl, k3]; exact hbz
      · rw [e]
        exact e178
      · rw [e]
        show (if 60 + Sl 57 12 = 60 + c then z else _) = (if Sl 57 12 = Sl 57 12 then (FNR (ADV Sl a q k v)) 68 15 else _)
        rw [if_pos (by omega), if_pos rfl, k3, hz, p83, p1, em]; omega
    · have q9 := r9 r a9 b9 (fun _ => e)
      have w1 : (gUp (DRP σ m) 179 (60 + c) z) 179 (60 + r) = (DRP σ m) 179 (60 + r) := if_neg (by omega)
      have w2 : (gUp (gUp (gUp (FNR (ADV Sl a q k v)) 68 2 ((FNR (ADV Sl a q k v)) 68 2 + 1)) 57 6 0) 57 3 0) 71 r = (CLS (ADV Sl a q k v) 16) 71 r := if_neg e
      rw [w1, w2]
      exact q9
  · rw [eN]; exact s4
  · rw [NXT_66]; exact to
  · rw [NXT_66]; have := tin.2.2.1 (by omega); omega
  · rw [eN]; show Sl 68 2 + 1 = S 68 2 + 1; rw [c8]
/-- what can't come behind a ONE -/
theorem RC_bad {a q k v : Int} {Sl : gH} (h7 : Sl 57 6 = 7) (h1 : wdO k v ≠ 15) (h2 : wdO k v ≠ 16) (h3 : ¬ (k = 41 ∧ 0 < Sl 57 15)) (h4 : ¬ (k = 59 ∧ Sl 57 15 = 0)) : (TAK (ADV Sl a q k v) k v).2 = 1 := by
  rw [TAK_7 (M := ADV Sl a q k v) h7]
  unfold LTL
  rw [if_neg (by omega), if_neg (show ¬ (k = 41 ∧ 0 < (ADV Sl a q k v) 57 15) from h3), if_neg (show ¬ (k = 59 ∧ (ADV Sl a q k v) 57 15 = 0) from h4)]
theorem bb_of {w : gV} {A B : Prop} (h : (w = gI 1 ∧ A) ∨ (w = gI 0 ∧ B)) : ∃ b : Int, w = gI b ∧ ((b = 1 ∧ A) ∨ (b = 0 ∧ B)) := by
  rcases h with h | h
  · exact ⟨1, h.1, Or.inl ⟨rfl, h.2⟩⟩
  · exact ⟨0, h.1, Or.inr ⟨rfl, h.2⟩⟩
/-- what the pile says of the links -/
theorem LKS_pile {W P : Int → Int} {w m x : Int} (S : STK W w) (hx : x = 15 ∨ x = 16) (h : ∀ k, 0 ≤ k → k < w → P k = rnP (W k)) (n1 : 0 ≤ m ∧ m ≤ w) (n2 : ∀ i, m ≤ i → i < w → P i = 21 ∨ P i = rnP x) (n3 : 0 < m → P (m - 1) ≠ 21 ∧ P (m - 1) ≠ rnP x) : m = lkF W x w.toNat := by
  refine LKS.one (W := W) (x := x) (n := w) ⟨n1, fun i a b => ?_, fun q => ?_⟩ (lkF_at (by omega))
  · have e := n2 i a b
    rw [h i (by omega) b] at e
    have f := rnP_of (S i (by omega) b).1
    have g := rnP_of (x := x) (by omega)
    omega
  · have e := n3 q
    rw [h (m - 1) (by omega) (by omega)] at e
    have f := rnP_of (S (m - 1) (by omega) (by omega)).1
    have g := rnP_of (x := x) (by omega)
    omega
