/-! the reference's reading follows the class's, token by token -/
theorem NXT_of {S X : gH} {a q k v f : Int} (h : TAK (ADV S a q k v) k v = (X, f)) : NXT S a q k v = gUp X 57 3 f := by
  unfold NXT; rw [h]
theorem FIN_not {X : gH} {s : Int} (h : X 57 6 = s) (hs : s ≠ 10) : ¬ FIN (gUp X 57 3 0) := fun c => c.elim (fun c => c rfl) (fun c => hs (by rw [← h]; exact c))
/-- both end with the same fault -/
def BADE (T : Int → Int) (L : Int) (σ0 S0 σ' : gH) : Prop := ∃ B, RCH T L S0 B ∧ FIN B ∧ B 57 3 ≠ 0 ∧ B 57 3 = σ' 133 60 ∧ B 66 3 = σ' 133 61 ∧ ∃ τ y z, KR σ0 τ ∧ σ' = gUp (gUp τ 133 60 y) 133 61 z
theorem BADE_mk {T : Int → Int} {L a q k v y f a' : Int} {σ0 S0 S σ : gH} (hR : RCH T L S0 S) (hf : ¬ FIN S) (t : TKS T L (S 66 4) a q k v σ) (K : KR σ0 σ) (e : (TAK (ADV S a q k v) k v).2 = f) (f0 : f ≠ 0) (hk : f = 1 ∨ (k ≠ 0 ∧ k ≠ 1)) (hy : (σ 133 57 = 1 ∧ y = 1) ∨ (σ 133 57 ≠ 1 ∧ y = f)) (ha : a' = σ 133 56) : BADE T L σ0 S0 (gUp (gUp σ 133 60 y) 133 61 a') := by
  have r := t.rest
  refine ⟨NXT S a q k v, hR.s hf ⟨a, q, k, v, t.1, rfl⟩, Or.inl ?_, ?_, ?_, ?_, σ, y, a', K, rfl⟩
  · show (TAK (ADV S a q k v) k v).2 ≠ 0
    rw [e]; exact f0
  · show (TAK (ADV S a q k v) k v).2 ≠ 0
    rw [e]; exact f0
  · show (TAK (ADV S a q k v) k v).2 = y
    rw [e]
    rcases hy with hy | hy
    · rcases r.2.1.mp hy.1 with c | c <;> omega
    · exact hy.2.symm
  · rw [NXT_66a]
    show a = a'
    rw [ha]; exact r.2.2.1.symm
theorem MTK.of {T : Int → Int} {L p : Int} {σ : gH} (h : MTK T L p σ) : ∃ a q k v, TKS T L p a q k v σ := h
theorem TKS.mtk {T : Int → Int} {L p a q k v : Int} {σ : gH} (h : TKS T L p a q k v σ) : MTK T L p σ := ⟨a, q, k, v, h⟩
theorem MTK.keep {T : Int → Int} {L p : Int} {σ σ' : gH} (h : MTK T L p σ) (e : ∀ j, (55 ≤ j ∧ j ≤ 59) ∨ j = 63 → σ' 133 j = σ 133 j) : MTK T L p σ' := by
  obtain ⟨a, q, k, v, t, m⟩ := h
  exact ⟨a, q, k, v, t, m.keep e⟩
/-- atoms of both -/
theorem ATO_in {b tl w : Int} (hb : b = 0 ∨ b = 1) (ht : tl ≠ 0 ↔ b = 1) : (ATO b w = -1 ↔ ¬ atmK tl w) ∧ (atmK tl w → ATO b w = rnM w ∧ (isMeM (ATO b w) ↔ isMeas w)) := by
  rcases hb with rfl | rfl
  · have h0 : tl = 0 := Classical.not_not.mp fun c => absurd (ht.mp c) (by decide)
    subst h0
    have e : ∀ w : Int, atmK 0 w ↔ 8 ≤ w ∧ w ≤ 13 := fun w => by unfold atmK; omega
    rw [e]
    refine ⟨?_, fun h => ?_⟩
    · unfold ATO
      repeat' split
      all_goals omega
    · rcases (show w = 8 ∨ w = 9 ∨ w = 10 ∨ w = 11 ∨ w = 12 ∨ w = 13 by omega) with rfl | rfl | rfl | rfl | rfl | rfl <;> decide
  · have h0 : tl ≠ 0 := ht.mpr rfl
    have e : ∀ w : Int, atmK tl w ↔ 0 ≤ w ∧ w ≤ 10 := fun w => by unfold atmK; omega
    rw [e]
    refine ⟨?_, fun h => ?_⟩
    · unfold ATO
      repeat' split
      all_goals omega
    · rcases (show w = 0 ∨ w = 1 ∨ w = 2 ∨ w = 3 ∨ w = 4 ∨ w = 5 ∨ w = 6 ∨ w = 7 ∨ w = 8 ∨ w = 9 ∨ w = 10 by omega) with rfl | rfl | rfl | rfl | rfl | rfl | rfl | rfl | rfl | rfl | rfl <;> decide
/-- bounds of the reference's fields in a condition -/
theorem RLC.bnd {L : Int} {σ0 S σ : gH} (R : RLC L σ0 S σ) (I : INVb L S) (hs : 4 ≤ S 57 6 ∧ S 57 6 ≤ 7) (hL : L ≤ 540) : σ 133 54 ≤ 540 ∧ (0 ≤ σ 133 79 ∧ σ 133 79 ≤ 63) ∧ (0 ≤ σ 133 80 ∧ σ 133 80 ≤ 20) ∧ (0 ≤ σ 133 81 ∧ σ 133 81 ≤ 63) ∧ (0 ≤ σ 133 82 ∧ σ 133 82 ≤ 60) ∧ (0 ≤ σ 133 83 ∧ σ 133 83 + σ 133 79 ≤ 120) := by
  have B := BND_of I
  obtain ⟨b1, b2, b3, b4, b5, b6, b7, b8, b9⟩ := B
  have b6 := b6 hs
  obtain ⟨iT, iS, iN, iO, iZ, iR, iQ, iH, iC, i8⟩ := I
  obtain ⟨C, ho, hz, hE, hr, ht, h7, h5, h6⟩ := iC hs
  have i0 := oth_in (S 67) (S 57 17).toNat
  have c3 := C.2.2.1
  have c4 := C.2.2.2.1
  have c1 := C.1
  obtain ⟨⟨r1, r2, r3, r4, r5, r6, r7, r8, r9⟩, ⟨p1, p2, p3, p4⟩, s3, s4⟩ := R
  omega
/-- a ONE read on both sides -/
def ROK (T : Int → Int) (L : Int) (σ0 S0 S σ' : gH) : Prop := ∃ S', RCH T L S0 S' ∧ ¬ FIN S' ∧ ((S' 57 6 = 4 ∧ S' 68 15 = S 68 15) ∨ (S' 57 6 = 7 ∧ S 68 15 < S' 68 15)) ∧ RLC L σ0 S' σ' ∧ MTK T L (S' 66 4) σ' ∧ S 66 4 < S' 66 4 ∧ S' 57 12 = S 57 12 ∧ S' 57 11 = S 57 11 ∧ S' 68 2 = S 68 2
theorem RO_nest {T : Int → Int} {L a q k v x : Int} {σ0 S0 S σ σ' : gH} (hR : RCH T L S0 S) (hf : ¬ FIN S) (I : INVb L S) (h4 : S 57 6 = 4) (t : TKS T L (S 66 4) a q k v σ) (R : RLC L σ0 S σ) (hn : k = 40 ∨ wdO k v = 14) (h1 : S 57 13 < 60) (h2 : S 57 14 ≤ 20) (hx : x = if k = 40 then 23 else 20) {n : Int} (hn2 : n = σ 133 82 + 1) (hk : KG (PSH (gUp σ 133 82 n) x) σ') (hm : MTK T L q σ') : ROK T L σ0 S0 S σ' := by
  have e : TAK (ADV S a q k v) k v = (NST (ADV S a q k v) k, 0) := by
    rw [TAK_4 (M := ADV S a q k v) h4]
    unfold LTO
    rw [if_neg (fun c => c.1 hn), if_neg (by show ¬ (60 ≤ S 57 13 ∨ 20 < S 57 14); omega), if_pos hn]
  have eN := NXT_of e
  obtain ⟨C, _⟩ := I.2.2.2.2.2.2.2.2.1 (by omega)
  have tin := TOKN_in I.1.2.2.2 t.1
  have hk0 : k ≠ 0 := by
    rcases hn with c | c
    · omega
    · intro c2; rw [c2, show wdO 0 v = -1 from rfl] at c; omega
  refine ⟨NXT S a q k v, hR.s hf ⟨a, q, k, v, t.1, rfl⟩, ?_, Or.inl ⟨?_, ?_⟩, ?_, ?_, ?_, ?_, ?_, ?_⟩
  · rw [eN]; exact FIN_not (s := 4) h4 (by decide)
  · rw [eN]; exact h4
  · rw [eN]; rfl
  · rw [eN]
    refine RLC.kg ?_ hk
    have R2 := R.one (a := a) (q := q) (k := k) (v := v) (n := n) (by rw [hn2, R.1.2.2.1])
    have R3 := R2.psh (y := x) (x := if k = 40 then 40 else 14) C.1 (by split <;> omega) (by rw [hx]; split <;> rfl) (D := S 57 14 + 1) (B := S 57 15 + gb (k = 40)) (by
      show S 57 14 + 1 = S 57 14 + _
      by_cases c : k = 40
      · rw [if_pos c]; rfl
      · rw [if_neg c]; rfl) (by
      show S 57 15 + gb (k = 40) = S 57 15 + _
      by_cases c : k = 40
      · rw [if_pos c, gb_t c]; rfl
      · rw [if_neg c, gb_f c]; rfl) (S' := NST (ADV S a q k v) k) rfl
    exact R3
  · rw [NXT_66]; exact hm
  · rw [NXT_66]; exact (tin.2.2.1 hk0).1
  · rw [eN]; rfl
  · rw [eN]; rfl
  · rw [eN]; rfl
/-- the atom laid, the nots turned -/
theorem RO_fin {T : Int → Int} {L x y s n q m : Int} {σ0 X σ : gH} (R : RLC L σ0 X σ) (hS : STK (X 67) (X 57 17)) (h0 : 0 ≤ X 57 17) (hz : 0 ≤ X 68 15) (hy : y = rnM x) (hm : isMeas x → σ 181 (1200 + X 68 15) = s ∧ σ 182 (1200 + X 68 15) = n) (hT : MTK T L q σ)
    (N : NTS (σ 186) 20 (σ 133 79) m) : RLC L σ0 (gUp (LTA X x s n) 57 3 0) (gUp (gUp (gUr (gUp (gUp (gUp σ 180 (1200 + σ 133 83) y) 133 83 (σ 133 83 + 1)) 133 79 m) 180 (pfl ((gUp σ 180 (1200 + σ 133 83) y) 180) (1200 + (σ 133 83 + 1)) (σ 133 79 - m) 20)) 133 83 (σ 133 83 + 1 + (σ 133 79 - m))) 133 80 (σ 133 80 - (σ 133 79 - m))) ∧
    MTK T L q (gUp (gUp (gUr (gUp (gUp (gUp σ 180 (1200 + σ 133 83) y) 133 83 (σ 133 83 + 1)) 133 79 m) 180 (pfl ((gUp σ 180 (1200 + σ 133 83) y) 180) (1200 + (σ 133 83 + 1)) (σ 133 79 - m) 20)) 133 83 (σ 133 83 + 1 + (σ 133 79 - m))) 133 80 (σ 133 80 - (σ 133 79 - m))) := by
  have P := R.put hz hy hm
  have Q := P.nots (S' := gUp (LTA X x s n) 57 3 0) (m := m) hS h0 (by show 0 ≤ X 68 15 + 1; omega) N rfl
  refine ⟨Q, hT.keep fun j hj => ?_⟩
  have d : ∀ {i : Int} {f : Int → Int} {v : Int}, j ≠ i → (if j = i then v else f j) = f j := fun h => if_neg h
  show (if j = 80 then _ else if j = 83 then _ else if j = 79 then _ else if j = 83 then _ else σ 133 j) = σ 133 j
  rw [if_neg (by omega), if_neg (by omega), if_neg (by omega), if_neg (by omega)]
theorem LTA_up {X : gH} {x s n : Int} (h0 : 0 ≤ X 57 17) : X 68 15 < (gUp (LTA X x s n) 57 3 0) 68 15 := by
  have N := (ntF_at (W := X 67) (x := 14) h0).1
  show X 68 15 < X 68 15 + 1 + (X 57 17 - ntF (X 67) 14 (X 57 17).toNat)
  omega
theorem NX4_at {S : gH} {a q k v : Int} (h4 : S 57 6 = 4) (hn : ¬ (k = 40 ∨ wdO k v = 14)) (hat : atmK (S 57 11) (wdO k v)) (h1 : S 57 13 < 60) (h2 : S 57 14 ≤ 20) : NXT S a q k v = if isMeas (wdO k v) then gUp (gUp (gUp (ONE (ADV S a q k v)) 57 8 (wdO k v)) 57 6 5) 57 3 0 else gUp (LTA (ONE (ADV S a q k v)) (wdO k v) 0 0) 57 3 0 := by
  unfold NXT
  rw [TAK_4 (M := ADV S a q k v) h4]
  unfold LTO
  rw [if_neg (fun c => c.2 hat), if_neg (by show ¬ (60 ≤ S 57 13 ∨ 20 < S 57 14); omega), if_neg hn]
  split <;> rfl
theorem NX5 {S : gH} {a q k v : Int} (h : S 57 6 = 5) (hk : k = 60 ∨ k = 61 ∨ k = 62) : NXT S a q k v = gUp (gUp (gUp (ADV S a q k v) 57 9 k) 57 6 6) 57 3 0 := by
  unfold NXT
  rw [TAK_5 (M := ADV S a q k v) h, if_pos hk]
theorem NX6 {S : gH} {a q k v : Int} (h : S 57 6 = 6) (hk : k = 3) : NXT S a q k v = gUp (LTA (ADV S a q k v) (S 57 8) (S 57 9) v) 57 3 0 := by
  unfold NXT
  rw [TAK_6 (M := ADV S a q k v) h, if_neg (fun c => c hk)]
  rfl
/-- an atom that isn't measured -/
theorem RO_atom {T : Int → Int} {L a q k v y m n : Int} {σ0 S0 S σ σg : gH} (hR : RCH T L S0 S) (hf : ¬ FIN S) (I : INVb L S) (h4 : S 57 6 = 4) (t : TKS T L (S 66 4) a q k v σ) (R : RLC L σ0 S σ) (hn : ¬ (k = 40 ∨ wdO k v = 14)) (hat : atmK (S 57 11) (wdO k v)) (h1 : S 57 13 < 60) (h2 : S 57 14 ≤ 20) (hme : ¬ isMeas (wdO k v)) (hy : y = rnM (wdO k v)) (hn2 : n = σ 133 82 + 1)
    (hk : KG (gUp σ 133 82 n) σg) (hm : MTK T L q σg) (N : NTS (σg 186) 20 (σg 133 79) m) : ROK T L σ0 S0 S (gUp (gUp (gUr (gUp (gUp (gUp σg 180 (1200 + σg 133 83) y) 133 83 (σg 133 83 + 1)) 133 79 m) 180 (pfl ((gUp σg 180 (1200 + σg 133 83) y) 180) (1200 + (σg 133 83 + 1)) (σg 133 79 - m) 20)) 133 83 (σg 133 83 + 1 + (σg 133 79 - m))) 133 80 (σg 133 80 - (σg 133 79 - m))) := by
  have eN := NX4_at (a := a) (q := q) h4 hn hat h1 h2
  rw [if_neg hme] at eN
  obtain ⟨C, _⟩ := I.2.2.2.2.2.2.2.2.1 (by omega)
  have tin := TOKN_in I.1.2.2.2 t.1
  have hk0 : k ≠ 0 := fun c => by rw [c] at hat; unfold atmK at hat; rw [show wdO 0 v = -1 from rfl] at hat; omega
  have R2 := (R.one (a := a) (q := q) (k := k) (v := v) (n := n) (by rw [hn2, R.1.2.2.1])).kg hk
  have F := RO_fin (s := 0) (n := 0) R2 C.2.1 C.1 I.2.2.2.2.1 hy (fun c => absurd c hme) hm N
  refine ⟨NXT S a q k v, hR.s hf ⟨a, q, k, v, t.1, rfl⟩, ?_, Or.inr ⟨?_, ?_⟩, ?_, ?_, ?_, ?_, ?_, ?_⟩
  · rw [eN]; exact FIN_not (s := 7) rfl (by decide)
  · rw [eN]; rfl
  · rw [eN]; exact LTA_up (X := ONE (ADV S a q k v)) C.1
  · rw [eN]; exact F.1
  · rw [NXT_66]; exact F.2
  · rw [NXT_66]; exact (tin.2.2.1 hk0).1
  · rw [eN]; rfl
  · rw [eN]; rfl
  · rw [eN]; rfl
/-- what the sign and the number leave -/
def SAM (S S' : gH) : Prop := S' 57 12 = S 57 12 ∧ S' 57 11 = S 57 11 ∧ S' 68 2 = S 68 2 ∧ S' 68 15 = S 68 15 ∧ S 66 4 < S' 66 4
theorem RO_m5 {T : Int → Int} {L a q k v n : Int} {σ0 S0 S σ σg : gH} (hR : RCH T L S0 S) (hf : ¬ FIN S) (I : INVb L S) (h4 : S 57 6 = 4) (t : TKS T L (S 66 4) a q k v σ) (R : RLC L σ0 S σ) (hn : ¬ (k = 40 ∨ wdO k v = 14)) (hat : atmK (S 57 11) (wdO k v)) (h1 : S 57 13 < 60) (h2 : S 57 14 ≤ 20) (hme : isMeas (wdO k v)) (hn2 : n = σ 133 82 + 1)
    (hk : KG (gUp σ 133 82 n) σg) : ∃ S5, RCH T L S0 S5 ∧ ¬ FIN S5 ∧ S5 57 6 = 5 ∧ S5 66 4 = q ∧ RLC L σ0 S5 σg ∧ S5 57 8 = wdO k v ∧ SAM S S5 := by
  have eN := NX4_at (a := a) (q := q) h4 hn hat h1 h2
  rw [if_pos hme] at eN
  have tin := TOKN_in I.1.2.2.2 t.1
  have hk0 : k ≠ 0 := fun c => by rw [c] at hat; unfold atmK at hat; rw [show wdO 0 v = -1 from rfl] at hat; omega
  have R2 := (R.one (a := a) (q := q) (k := k) (v := v) (n := n) (by rw [hn2, R.1.2.2.1])).kg hk
  refine ⟨NXT S a q k v, hR.s hf ⟨a, q, k, v, t.1, rfl⟩, ?_, ?_, NXT_66, ?_, ?_, ?_, ?_, ?_, ?_, ?_⟩
  · rw [eN]; exact FIN_not (s := 5) rfl (by decide)
  · rw [eN]; rfl
  · rw [eN]; exact R2
  · rw [eN]; rfl
  · rw [eN]; rfl
  · rw [eN]; rfl
  · rw [eN]; rfl
  · rw [eN]; rfl
  · rw [NXT_66]; exact (tin.2.2.1 hk0).1
theorem RO_m6 {T : Int → Int} {L q s : Int} {σ0 S0 S S5 σ σg : gH} (I0 : INV L S0) (hR : RCH T L S0 S5) (hf : ¬ FIN S5) (h5 : S5 57 6 = 5) (hp : S5 66 4 = q) {q2 a2 k2 v2 : Int} (t : TKS T L q a2 q2 k2 v2 σ) (R : RLC L σ0 S5 σ) (hs : k2 = 60 ∨ k2 = 61 ∨ k2 = 62) (hA : SAM S S5)
    (hk : KG (gUp σ 181 (1200 + S 68 15) s) σg) (hss : s = σ 133 59) : ∃ S6, RCH T L S0 S6 ∧ ¬ FIN S6 ∧ S6 57 6 = 6 ∧ S6 66 4 = q2 ∧ RLC L σ0 S6 σg ∧ S6 57 8 = S5 57 8 ∧ S6 57 9 = k2 ∧ σg 181 (1200 + S 68 15) = k2 ∧ SAM S S6 := by
  have f0 : S5 57 3 = 0 := Classical.not_not.mp fun c => hf (Or.inl c)
  have I5 := (hR.inv I0) f0
  have eN := NX5 (a := a2) (q := q2) (k := k2) (v := v2) h5 hs
  rw [← hp] at t
  have tin := TOKN_in I5.1.2.2.2 t.1
  have e59 : s = k2 := by
    have m := t.2.2
    rcases m with m | ⟨_, m | m | m | m⟩ <;> omega
  obtain ⟨A1, A2, A3, A4, A5⟩ := hA
  have z0 := I5.2.2.2.2.1
  rw [← A4] at hk
  have R2 := ((R.sg (v := s) z0).kg hk)
  refine ⟨NXT S5 a2 q2 k2 v2, hR.s hf ⟨a2, q2, k2, v2, t.1, rfl⟩, ?_, ?_, NXT_66, ?_, ?_, ?_, ?_, ?_, ?_, ?_, ?_, ?_⟩
  · rw [eN]; exact FIN_not (s := 6) rfl (by decide)
  · rw [eN]; rfl
  · rw [eN]; exact R2
  · rw [eN]; rfl
  · rw [eN]; rfl
  · rw [hk.row (k := 181) (by decide), ← A4, gUp_at, if_pos rfl]; exact e59
  · rw [eN]; exact A1
  · rw [eN]; exact A2
  · rw [eN]; exact A3
  · rw [eN]; exact A4
  · rw [NXT_66]
    have := tin.2.2.1 (by omega)
    omega
theorem RO_m7 {T : Int → Int} {L q w y m u : Int} {σ0 S0 S S6 σ σg : gH} (I0 : INV L S0) (hR : RCH T L S0 S6) (hf : ¬ FIN S6) (h6 : S6 57 6 = 6) (hp : S6 66 4 = q) {q2 a2 k2 v2 : Int} (t : TKS T L q a2 q2 k2 v2 σ) (R : RLC L σ0 S6 σ) (h8 : S6 57 8 = w) (h9 : σ 181 (1200 + S 68 15) = S6 57 9) (hA : SAM S S6) (h3 : k2 = 3) (hy : y = rnM w)
    (hk : KG (gUp σ 182 (1200 + S 68 15) u) σg) (hu : u = σ 133 58) (hm : MTK T L q2 σg) (N : NTS (σg 186) 20 (σg 133 79) m) : ROK T L σ0 S0 S (gUp (gUp (gUr (gUp (gUp (gUp σg 180 (1200 + σg 133 83) y) 133 83 (σg 133 83 + 1)) 133 79 m) 180 (pfl ((gUp σg 180 (1200 + σg 133 83) y) 180) (1200 + (σg 133 83 + 1)) (σg 133 79 - m) 20)) 133 83 (σg 133 83 + 1 + (σg 133 79 - m))) 133 80 (σg 133 80 - (σg 133 79 - m))) := by
  have f0 : S6 57 3 = 0 := Classical.not_not.mp fun c => hf (Or.inl c)
  have I6 := (hR.inv I0) f0
  have eN := NX6 (a := a2) (q := q2) (k := k2) (v := v2) h6 h3
  rw [← hp] at t
  have tin := TOKN_in I6.1.2.2.2 t.1
  have e58 : u = v2 := by rw [hu]; exact t.num.2 h3
  obtain ⟨A1, A2, A3, A4, A5⟩ := hA
  obtain ⟨C, _⟩ := I6.2.2.2.2.2.2.2.2.1 (by omega)
  have z0 := I6.2.2.2.2.1
  rw [← A4] at hk h9
  have R2 : RLC L σ0 (ADV S6 a2 q2 k2 v2) σg := ((R.nu (v := u) z0).kg hk)
  have F := RO_fin (y := y) (x := S6 57 8) (s := S6 57 9) (n := v2) R2 C.2.1 C.1 z0 (by rw [hy, h8]) (fun _ => ⟨by
    show σg 181 (1200 + S6 68 15) = S6 57 9
    rw [hk.row (k := 181) (by decide)]; exact h9, by
    show σg 182 (1200 + S6 68 15) = v2
    rw [hk.row (k := 182) (by decide), gUp_at, if_pos rfl]; exact e58⟩) hm N
  refine ⟨NXT S6 a2 q2 k2 v2, hR.s hf ⟨a2, q2, k2, v2, t.1, rfl⟩, ?_, Or.inr ⟨?_, ?_⟩, ?_, ?_, ?_, ?_, ?_, ?_⟩
  · rw [eN]; exact FIN_not (s := 7) rfl (by decide)
  · rw [eN]; rfl
  · rw [eN, ← A4]; exact LTA_up (X := ADV S6 a2 q2 k2 v2) C.1
  · rw [eN]; exact F.1
  · rw [NXT_66]; exact F.2
  · rw [NXT_66]
    have := tin.2.2.1 (by omega)
    omega
  · rw [eN]; exact A1
  · rw [eN]; exact A2
  · rw [eN]; exact A3
theorem kk_of {k v tl : Int} (h : ¬ (¬ (k = 40 ∨ wdO k v = 14) ∧ ¬ atmK tl (wdO k v))) : k ≠ 0 ∧ k ≠ 1 := by
  unfold wdO at h
  split at h
  · omega
  · unfold atmK at h
    omega
theorem wdO_k {k v w : Int} (hw : 0 ≤ w) (h : wdO k v = w) : k = 2 := ((wdO_iff hw).mp h).1
theorem MTK.tr {T T' : Int → Int} {L L' p p' : Int} {σ : gH} (h : MTK T' L' p' σ) (e1 : T' = T) (e2 : L' = L) (e3 : p' = p) : MTK T L p σ := by
  subst e1 e2 e3; exact h
