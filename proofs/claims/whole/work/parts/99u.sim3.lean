/-! the reference's rules follow the class's -/
/-- what the reference has of the rule that begins -/
def RIH (S σ : gH) (c : Int) : Prop := (S 57 11 ≠ 0 ∧ c = S 68 3 ∧ σ 175 6 = S 68 3 + 1 ∧ σ 176 (48 + c) = S 57 10) ∨ (S 57 11 = 0 ∧ c = (if S 57 8 = 20 then 8 else 9) ∧ σ 175 6 = S 68 3)
theorem RIH.kg {S σ σ' : gH} {c : Int} (H : RIH S σ c) (hk : KG σ σ') : RIH S σ' c := by
  unfold RIH at *
  rw [hk.row (k := 175) (by decide), hk.row (k := 176) (by decide)]
  exact H
theorem RI_beg {T : Int → Int} {L a q k v c : Int} {σ0 S0 S σ σg : gH} (hR : RCH T L S0 S) (hf : ¬ FIN S) (I : INVb L S) (h13 : S 57 6 = 1 ∨ S 57 6 = 3) (t : TKS T L (S 66 4) a q k v σ) (hw : wdO k v = 17) (R : RLB L σ0 S σ False 0) (H : RIH S σ c) (hk : KG σ σg) (hm : MTK T L q σg) :
    ∃ S1, RCH T L S0 S1 ∧ ¬ FIN S1 ∧ S1 57 6 = 4 ∧ S1 57 17 = 0 ∧ S1 57 14 = 1 ∧ S1 57 15 = 0 ∧ S1 70 (S1 57 12) = S1 68 15 ∧ RLB L σ0 S1 σg True (S1 57 12) ∧ σg 175 6 = S1 68 3 ∧ MTK T L (S1 66 4) σg ∧ c = S1 57 12 ∧ (S1 57 11 ≠ 0 ↔ c < 8) ∧ S 66 4 < S1 66 4 ∧ S1 68 2 = S 68 2 := by
  have tin := TOKN_in I.1.2.2.2 t.1
  have hk2 : k = 2 := wdO_k (by decide) hw
  have hpq := (tin.2.2.1 (by omega)).1
  have eT : TAK (ADV S a q k v) k v = LTI (ADV S a q k v) 17 := by
    rcases h13 with h | h
    · rw [TAK_1 (M := ADV S a q k v) h, hw, if_neg (by decide)]
    · rw [TAK_3 (M := ADV S a q k v) h, hw]
  obtain ⟨r1, r2, r3, r4, r5, r6, r7, r8, r9⟩ := R.kg hk
  have n3 := I.2.2.1.2.2.1
  have HD := I.2.2.2.2.2.2.2.1 (by omega)
  rcases H.kg hk with ⟨h1, h2, h3, h4⟩ | ⟨h1, h2, h3⟩
  · have e : TAK (ADV S a q k v) k v = (BGN (ADT (ADV S a q k v)) (S 68 3), 0) := by
      rw [eT]
      unfold LTI
      rw [if_neg (by decide), if_pos (show (ADV S a q k v) 57 11 ≠ 0 from h1)]
      rfl
    have eN := NXT_of e
    have h8 := (HD.1 h1).1
    refine ⟨NXT S a q k v, hR.s hf ⟨a, q, k, v, t.1, rfl⟩, ?_, ?_, ?_, ?_, ?_, ?_, ?_, ?_, ?_, ?_, ?_, ?_, ?_⟩
    · rw [eN]; exact FIN_not (s := 4) rfl (by decide)
    · rw [eN]; rfl
    · rw [eN]; rfl
    · rw [eN]; rfl
    · rw [eN]; rfl
    · rw [eN]; exact if_pos rfl
    · rw [eN]
      refine ⟨r1, r2, r3, r4, r5, fun k9 a9 b9 => ?_, r7, r8, fun r a9 b9 c9 => ?_⟩
      · have b8 : k9 < S 68 3 + 1 := b9
        show σg 176 (48 + k9) = (if k9 = S 68 3 then S 57 10 else S 69 k9)
        by_cases c8 : k9 = S 68 3
        · rw [if_pos c8, c8, ← h2]; exact h4
        · rw [if_neg c8]; exact r6 k9 a9 (by omega)
      · have c8 : r ≠ S 68 3 := c9 trivial
        have w1 : (gUp (BGN (ADT (ADV S a q k v)) (S 68 3)) 57 3 0) 70 r = S 70 r := if_neg c8
        have w2 : (gUp (BGN (ADT (ADV S a q k v)) (S 68 3)) 57 3 0) 71 r = S 71 r := if_neg c8
        rw [w1, w2]
        exact r9 r a9 b9 (fun x => x.elim)
    · rw [eN]; exact h3
    · rw [NXT_66]; exact hm
    · rw [eN]; exact h2
    · rw [eN]
      exact ⟨fun _ => by rw [h2]; exact h8, fun _ => h1⟩
    · rw [NXT_66]; exact hpq
    · rw [eN]; rfl
  · have e : TAK (ADV S a q k v) k v = (BGN (gUp (ADV S a q k v) 57 12 (if S 57 8 = 20 then 8 else 9)) (if S 57 8 = 20 then 8 else 9), 0) := by
      rw [eT]
      unfold LTI
      rw [if_neg (by decide), if_neg (show ¬ (ADV S a q k v) 57 11 ≠ 0 from fun x => x h1)]
      rfl
    have eN := NXT_of e
    have hc8 : 8 ≤ c ∧ c < 10 := by rw [h2]; split <;> omega
    rw [← h2] at eN
    refine ⟨NXT S a q k v, hR.s hf ⟨a, q, k, v, t.1, rfl⟩, ?_, ?_, ?_, ?_, ?_, ?_, ?_, ?_, ?_, ?_, ?_, ?_, ?_⟩
    · rw [eN]; exact FIN_not (s := 4) rfl (by decide)
    · rw [eN]; rfl
    · rw [eN]; rfl
    · rw [eN]; rfl
    · rw [eN]; rfl
    · rw [eN]; exact if_pos rfl
    · rw [eN]
      refine ⟨r1, r2, r3, r4, r5, r6, r7, r8, fun r a9 b9 c9 => ?_⟩
      have c8 : r ≠ c := c9 trivial
      have w1 : (gUp (BGN (gUp (ADV S a q k v) 57 12 c) c) 57 3 0) 70 r = S 70 r := if_neg c8
      have w2 : (gUp (BGN (gUp (ADV S a q k v) 57 12 c) c) 57 3 0) 71 r = S 71 r := if_neg c8
      rw [w1, w2]
      exact r9 r a9 b9 (fun x => x.elim)
    · rw [eN]; exact h3
    · rw [NXT_66]; exact hm
    · rw [eN]; rfl
    · rw [eN]
      exact ⟨fun x => absurd h1 x, fun x => by omega⟩
    · rw [NXT_66]; exact hpq
    · rw [eN]; rfl
theorem RDN.from {T : Int → Int} {L : Int} {σ0 S0 S S1 σ' : gH} (h : RDN T L σ0 S0 S1 σ') (h1 : S 66 4 ≤ S1 66 4) (h2 : S1 68 2 = S 68 2) : RDN T L σ0 S0 S σ' := by
  obtain ⟨S', a1, a2, a3, a4, a5, a6, a7, a8⟩ := h
  exact ⟨S', a1, a2, a3, a4, a5, a6, by omega, by omega⟩
theorem RI_bad {a q k v : Int} {S : gH} (h13 : (S 57 6 = 1 ∧ wdO k v ≠ 18) ∨ S 57 6 = 3) (hw : wdO k v ≠ 17) : (TAK (ADV S a q k v) k v).2 = 1 := by
  have eT : TAK (ADV S a q k v) k v = LTI (ADV S a q k v) (wdO k v) := by
    rcases h13 with h | h
    · rw [TAK_1 (M := ADV S a q k v) h.1, if_neg h.2]
    · rw [TAK_3 (M := ADV S a q k v) h]
  rw [eT]
  unfold LTI
  rw [if_pos hw]
/-- a word begins a rule: both -/
theorem bit3_add {b w w' : Int} (hw : 0 ≤ w ∧ w < 32) (hw' : 0 ≤ w' ∧ w' < 32) : bit3 (gB32 (fun a b => a ||| b) b (gB32 (fun a b => a <<< (b &&& 31)) 1 w)) w' ↔ bit3 b w' ∨ w' = w := bit3_set hw.1 hw.2 hw'.1 hw'.2
theorem TLR.add {a b w : Int} (H : TLR a b) (hw : w = 8 ∨ (20 ≤ w ∧ w ≤ 25)) : TLR (gB32 (fun a b => a ||| b) a (gB32 (fun a b => a <<< (b &&& 31)) 1 w)) (gB32 (fun a b => a ||| b) b (gB32 (fun a b => a <<< (b &&& 31)) 1 (TLB w))) := fun w' h' => by
  have e : ∀ x : Int, x = 8 ∨ (20 ≤ x ∧ x ≤ 25) → 0 ≤ TLB x ∧ TLB x < 32 := fun x hx => by
    unfold TLB; repeat' split
    all_goals omega
  rw [bit3_add (by omega) (by omega), bit3_add (e w hw) (e w' h'), H w' h']
  have j : w' = w ↔ TLB w' = TLB w := by
    unfold TLB; repeat' split
    all_goals omega
  rw [j]
theorem TLR.add19 {a b : Int} (H : TLR a b) : TLR (gB32 (fun a b => a ||| b) a (gB32 (fun a b => a <<< (b &&& 31)) 1 19)) b := fun w' h' => by
  rw [bit3_add (by omega) (by omega), H w' h']
  constructor
  · intro x
    rcases x with x | x
    · exact x
    · omega
  · exact Or.inl
/-- the step at a rule's word -/
theorem RR_step {T : Int → Int} {L a q k v w : Int} {S0 S σ : gH} (hR : RCH T L S0 S) (hf : ¬ FIN S) (h0 : S 57 6 = 0) (t : TKS T L (S 66 4) a q k v σ) (hw : wdO k v = w) (hw0 : 0 ≤ w) (hrw : isRw w) (hno : ¬ ((w = 19 ∧ 8 ≤ S 68 3) ∨ (w ≠ 19 ∧ bit3 (S 57 7) w))) : NXT S a q k v = gUp (LTRs (ADV S a q k v) w) 57 3 0 ∧ RCH T L S0 (NXT S a q k v) ∧ ¬ FIN (NXT S a q k v) := by
  have hk2 : k = 2 := wdO_k hw0 hw
  have e : TAK (ADV S a q k v) k v = (LTRs (ADV S a q k v) w, 0) := by
    rw [TAK_0 (M := ADV S a q k v) h0, if_neg (by omega), hw]
    unfold LTR
    rw [if_neg (fun x => x hrw), if_neg (show ¬ ((w = 19 ∧ 8 ≤ (ADV S a q k v) 68 3) ∨ (w ≠ 19 ∧ gB32 (fun a b => a &&& b) (gB32 (fun a b => a >>> (b &&& 31)) ((ADV S a q k v) 57 7) w) 1 ≠ 0)) from hno)]
  have eN := NXT_of e
  refine ⟨eN, hR.s hf ⟨a, q, k, v, t.1, rfl⟩, ?_⟩
  rw [eN]
  refine FIN_not (s := if w = 19 then 1 else if w = 20 ∨ w = 21 then 3 else 8) rfl ?_
  split
  · omega
  · split <;> omega
theorem RR_bad1 {a q k v : Int} {S : gH} (h0 : S 57 6 = 0) (hk : k ≠ 0) (hw : ¬ isRw (wdO k v)) : (TAK (ADV S a q k v) k v).2 = 1 := by
  rw [TAK_0 (M := ADV S a q k v) h0, if_neg hk]
  unfold LTR
  rw [if_pos hw]
theorem RR_bad3 {a q k v : Int} {S : gH} (h0 : S 57 6 = 0) (hk : k ≠ 0) (hw : isRw (wdO k v)) (hno : (wdO k v = 19 ∧ 8 ≤ S 68 3) ∨ (wdO k v ≠ 19 ∧ bit3 (S 57 7) (wdO k v))) : (TAK (ADV S a q k v) k v).2 = 3 := by
  rw [TAK_0 (M := ADV S a q k v) h0, if_neg hk]
  unfold LTR
  rw [if_neg (fun x => x hw), if_pos (show ((wdO k v = 19 ∧ 8 ≤ (ADV S a q k v) 68 3) ∨ (wdO k v ≠ 19 ∧ gB32 (fun a b => a &&& b) (gB32 (fun a b => a >>> (b &&& 31)) ((ADV S a q k v) 57 7) (wdO k v)) 1 ≠ 0)) from hno)]
/-- tell, and what it leaves -/
theorem RT_beg {T : Int → Int} {L a q k v u : Int} {σ0 S0 S σ σg : gH} (hR : RCH T L S0 S) (hf : ¬ FIN S) (I : INVb L S) (h0 : S 57 6 = 0) (t : TKS T L (S 66 4) a q k v σ) (hw : wdO k v = 19) (h8 : S 68 3 < 8) (R : RLB L σ0 S σ False 0) (hu : u = S 68 3) (hk : KG (gUp σ 176 (48 + u) 30) σg) :
    ∃ S1, RCH T L S0 S1 ∧ ¬ FIN S1 ∧ S1 57 6 = 1 ∧ S1 66 4 = q ∧ RLB L σ0 S1 σg False 0 ∧ σg 176 (48 + u) = S1 57 10 ∧ S1 68 3 = S 68 3 ∧ S1 57 11 ≠ 0 ∧ S1 68 2 = S 68 2 ∧ S 66 4 < S1 66 4 := by
  have st := RR_step hR hf h0 t hw (by decide) (Or.inr (by omega)) (by omega)
  have tin := TOKN_in I.1.2.2.2 t.1
  have hk2 : k = 2 := wdO_k (by decide) hw
  have hpq := (tin.2.2.1 (by omega)).1
  have n3 := I.2.2.1.2.2.1
  obtain ⟨r1, r2, r3, r4, r5, r6, r7, r8, r9⟩ := R
  have R2 : RLB L σ0 S (gUp σ 176 (48 + u) 30) False 0 := ⟨r1.up (isR_wi (by omega)), r2, r3, r4, r5, fun k9 a9 b9 => by
    rw [gUp_at, if_neg (by omega)]; exact r6 k9 a9 b9, r7, r8, r9⟩
  obtain ⟨r1, r2, r3, r4, r5, r6, r7, r8, r9⟩ := R2.kg hk
  refine ⟨NXT S a q k v, st.2.1, st.2.2, ?_, NXT_66, ?_, ?_, ?_, ?_, ?_, ?_⟩
  · rw [st.1]; rfl
  · rw [st.1]; exact ⟨r1, r2, r3, r4, r5, r6, r7, r8.add19, r9⟩
  · rw [st.1, hk.row (k := 176) (by decide), gUp_at, if_pos rfl]; rfl
  · rw [st.1]; rfl
  · rw [st.1]; exact (by decide : (1 : Int) ≠ 0)
  · rw [st.1]; rfl
  · rw [NXT_66]; exact hpq
/-- within -/
theorem RT_wi {T : Int → Int} {L a q k v : Int} {σ0 S0 S σ σg : gH} (hR : RCH T L S0 S) (hf : ¬ FIN S) (I : INVb L S) (h1 : S 57 6 = 1) (t : TKS T L (S 66 4) a q k v σ) (hw : wdO k v = 18) (R : RLB L σ0 S σ False 0) (hk : KG σ σg) :
    ∃ S1, RCH T L S0 S1 ∧ ¬ FIN S1 ∧ S1 57 6 = 2 ∧ S1 66 4 = q ∧ RLB L σ0 S1 σg False 0 ∧ S1 68 3 = S 68 3 ∧ (S1 57 11 = S 57 11) ∧ S1 68 2 = S 68 2 ∧ S 66 4 < S1 66 4 := by
  have tin := TOKN_in I.1.2.2.2 t.1
  have hk2 : k = 2 := wdO_k (by decide) hw
  have hpq := (tin.2.2.1 (by omega)).1
  have eN : NXT S a q k v = gUp (gUp (ADV S a q k v) 57 6 2) 57 3 0 := by
    unfold NXT
    rw [TAK_1 (M := ADV S a q k v) h1, if_pos hw]
  have R2 := R.kg hk
  refine ⟨NXT S a q k v, hR.s hf ⟨a, q, k, v, t.1, rfl⟩, ?_, ?_, NXT_66, ?_, ?_, ?_, ?_, ?_⟩
  · rw [eN]; exact FIN_not (s := 2) rfl (by decide)
  · rw [eN]; rfl
  · rw [eN]; exact R2
  · rw [eN]; rfl
  · rw [eN]; rfl
  · rw [eN]; rfl
  · rw [NXT_66]; exact hpq
theorem LTD_f {S : gH} {a q k v : Int} (h : S 57 6 = 2) : (TAK (ADV S a q k v) k v).2 = if k = 3 then (if 0 ≤ v ∧ v ≤ 999 then 0 else 2) else 1 := by
  rw [TAK_2 (M := ADV S a q k v) h]
  unfold LTD
  by_cases c : k = 3
  · rw [if_neg (fun x => x c), if_pos c]
  · rw [if_pos c, if_neg c]
theorem RT_nu {T : Int → Int} {L a q k v u n : Int} {σ0 S0 S σ σg : gH} (hR : RCH T L S0 S) (hf : ¬ FIN S) (I : INVb L S) (h2 : S 57 6 = 2) (t : TKS T L (S 66 4) a q k v σ) (hk3 : k = 3) (hv : 0 ≤ v ∧ v ≤ 999) (R : RLB L σ0 S σ False 0) (hu : u = S 68 3) (hn : n = v) (hk : KG (gUp σ 176 (48 + u) n) σg) :
    ∃ S1, RCH T L S0 S1 ∧ ¬ FIN S1 ∧ S1 57 6 = 3 ∧ S1 66 4 = q ∧ RLB L σ0 S1 σg False 0 ∧ σg 176 (48 + u) = S1 57 10 ∧ S1 68 3 = S 68 3 ∧ (S1 57 11 = S 57 11) ∧ S1 68 2 = S 68 2 ∧ S 66 4 < S1 66 4 := by
  have tin := TOKN_in I.1.2.2.2 t.1
  have hpq := (tin.2.2.1 (by omega)).1
  have n3 := I.2.2.1.2.2.1
  have eN : NXT S a q k v = gUp (gUp (gUp (ADV S a q k v) 57 10 v) 57 6 3) 57 3 0 := by
    unfold NXT
    rw [TAK_2 (M := ADV S a q k v) h2]
    unfold LTD
    rw [if_neg (fun x => x hk3), if_pos hv]
  obtain ⟨r1, r2, r3, r4, r5, r6, r7, r8, r9⟩ := R
  have R2 : RLB L σ0 S (gUp σ 176 (48 + u) n) False 0 := ⟨r1.up (isR_wi (by omega)), r2, r3, r4, r5, fun k9 a9 b9 => by
    rw [gUp_at, if_neg (by omega)]; exact r6 k9 a9 b9, r7, r8, r9⟩
  have R3 := R2.kg hk
  refine ⟨NXT S a q k v, hR.s hf ⟨a, q, k, v, t.1, rfl⟩, ?_, ?_, NXT_66, ?_, ?_, ?_, ?_, ?_, ?_⟩
  · rw [eN]; exact FIN_not (s := 3) rfl (by decide)
  · rw [eN]; rfl
  · rw [eN]; exact R3
  · rw [eN, hk.row (k := 176) (by decide), gUp_at, if_pos rfl, hn]; rfl
  · rw [eN]; rfl
  · rw [eN]; rfl
  · rw [eN]; rfl
  · rw [NXT_66]; exact hpq
/-- the tells counted -/
theorem RLB.te {L v : Int} {σ0 S σ : gH} {q : Prop} {c : Int} (R : RLB L σ0 S σ q c) : RLB L σ0 S (gUp σ 175 6 v) q c := by
  obtain ⟨r1, r2, r3, r4, r5, r6, r7, r8, r9⟩ := R
  exact ⟨r1.up rfl, r2, r3, r4, r5, r6, r7, r8, r9⟩
/-- sit, may, a number: the word's bit -/
theorem NAH_in {w : Int} (h : -1 ≤ w ∧ w ≤ 25) (h20 : w ≠ 20) (h21 : w ≠ 21) : (NAH w = -1 ↔ ¬ (w = 8 ∨ (22 ≤ w ∧ w ≤ 25))) ∧ ((w = 8 ∨ (22 ≤ w ∧ w ≤ 25)) → NAH w = TLB w ∧ 0 ≤ NAH w ∧ NAH w ≤ 4) := by
  unfold NAH TLB
  constructor
  · repeat' split
    all_goals omega
  · intro x
    repeat' split
    all_goals omega
theorem RR_beg {T : Int → Int} {L a q k v w n : Int} {σ0 S0 S σ σg : gH} (hR : RCH T L S0 S) (hf : ¬ FIN S) (I : INVb L S) (h0 : S 57 6 = 0) (t : TKS T L (S 66 4) a q k v σ) (hw : wdO k v = w) (hw2 : w = 8 ∨ (20 ≤ w ∧ w ≤ 25)) (hno : ¬ bit3 (S 57 7) w) (R : RLB L σ0 S σ False 0) (hn : n = gB32 (fun a b => a ||| b) (σ 133 62) (gB32 (fun a b => a <<< (b &&& 31)) 1 (TLB w))) (hk : KG (gUp σ 133 62 n) σg) :
    ∃ S1, RCH T L S0 S1 ∧ ¬ FIN S1 ∧ S1 57 6 = (if w = 20 ∨ w = 21 then 3 else 8) ∧ S1 66 4 = q ∧ RLB L σ0 S1 σg False 0 ∧ S1 57 8 = w ∧ S1 57 11 = 0 ∧ S1 68 3 = S 68 3 ∧ S1 68 2 = S 68 2 ∧ S 66 4 < S1 66 4 := by
  have st := RR_step hR hf h0 t hw (by omega) (by rcases hw2 with x | x; exact Or.inl x; exact Or.inr (by omega)) (by intro x; rcases x with x | x; omega; exact hno x.2)
  have tin := TOKN_in I.1.2.2.2 t.1
  have hk2 : k = 2 := wdO_k (by omega) hw
  have hpq := (tin.2.2.1 (by omega)).1
  obtain ⟨r1, r2, r3, r4, r5, r6, r7, r8, r9⟩ := R
  have R2 : RLB L σ0 (LTRs (ADV S a q k v) w) (gUp σ 133 62 n) False 0 := ⟨r1.up rfl, r2, r3, r4, r5, r6, r7, by rw [hn]; exact r8.add hw2, r9⟩
  have R3 := R2.kg hk
  refine ⟨NXT S a q k v, st.2.1, st.2.2, ?_, NXT_66, ?_, ?_, ?_, ?_, ?_, ?_⟩
  · rw [st.1]
    show (if w = 19 then (1 : Int) else if w = 20 ∨ w = 21 then 3 else 8) = _
    rw [if_neg (by omega)]
  · rw [st.1]; exact R3
  · rw [st.1]; rfl
  · rw [st.1]
    show gb (w = 19) = 0
    exact gb_f (by omega)
  · rw [st.1]; rfl
  · rw [st.1]; rfl
  · rw [NXT_66]; exact hpq
theorem LTS_f {S : gH} {a q k v : Int} (h : S 57 6 = 8) : (TAK (ADV S a q k v) k v).2 = if k = 3 then (if v < gb (S 57 8 = 22 ∨ S 57 8 = 24) ∨ GRF (S 57 8) < v then 2 else 0) else 1 := by
  rw [TAK_8 (M := ADV S a q k v) h]
  unfold LTS
  by_cases c : k = 3
  · rw [if_neg (fun x => x c), if_pos c]
    show (if v < gb (S 57 8 = 22 ∨ S 57 8 = 24) ∨ GRF (S 57 8) < v then (ADV S a q k v, (2 : Int)) else _).2 = _
    split <;> rfl
  · rw [if_pos c, if_neg c]
theorem TLB_in {w : Int} (h : w = 8 ∨ (20 ≤ w ∧ w ≤ 25)) : 0 ≤ TLB w ∧ TLB w ≤ 9 := by
  unfold TLB
  repeat' split
  all_goals omega
theorem stJ_in (w : Int) : 4 ≤ stJ w ∧ stJ w ≤ 8 := by
  unfold stJ
  repeat' split
  all_goals omega
/-- a number set on both sides -/
theorem RS_set {T : Int → Int} {L a q k v n w : Int} {σ0 S0 S σ σg : gH} (hR : RCH T L S0 S) (hf : ¬ FIN S) (I : INVb L S) (h8 : S 57 6 = 8) (hw8 : S 57 8 = w) (hw2 : w = 8 ∨ (22 ≤ w ∧ w ≤ 25)) (t : TKS T L (S 66 4) a q k v σ) (hk3 : k = 3) (hv : ¬ (v < gb (w = 22 ∨ w = 24) ∨ GRF w < v)) (R : RLB L σ0 S σ False 0) (hn : n = v) (hk : KG (gUp σ 177 (30 + TLB w) n) σg) :
    ∃ S1, RCH T L S0 S1 ∧ ¬ FIN S1 ∧ S1 57 6 = 9 ∧ S1 66 4 = q ∧ RLB L σ0 S1 σg False 0 ∧ S1 68 3 = S 68 3 ∧ S1 68 2 = S 68 2 ∧ S 66 4 < S1 66 4 := by
  have tin := TOKN_in I.1.2.2.2 t.1
  have hpq := (tin.2.2.1 (by omega)).1
  have eN : NXT S a q k v = gUp (gUp (gUp (ADV S a q k v) 68 (stJ w) v) 57 6 9) 57 3 0 := by
    unfold NXT
    rw [TAK_8 (M := ADV S a q k v) h8]
    unfold LTS
    rw [if_neg (fun x => x hk3), if_neg (show ¬ (v < gb ((ADV S a q k v) 57 8 = 22 ∨ (ADV S a q k v) 57 8 = 24) ∨ GRF ((ADV S a q k v) 57 8) < v) by show ¬ (v < gb (S 57 8 = 22 ∨ S 57 8 = 24) ∨ GRF (S 57 8) < v); rw [hw8]; exact hv)]
    show gUp (gUp (gUp (ADV S a q k v) 68 (stJ (S 57 8)) v) 57 6 9) 57 3 0 = _
    rw [hw8]
  obtain ⟨r1, r2, r3, r4, r5, r6, r7, r8, r9⟩ := R
  have K : KR σ0 (gUp σ 177 (30 + TLB w) n) := r1.up (isR_nu (by have := TLB_in (w := w) (by omega); omega))
  obtain ⟨u1, u2, u3, u4, u5⟩ := r7
  have R2 : RLB L σ0 (gUp (gUp (gUp (ADV S a q k v) 68 (stJ w) v) 57 6 9) 57 3 0) (gUp σ 177 (30 + TLB w) n) False 0 := by
    rw [hn] at K ⊢
    rcases (show w = 8 ∨ w = 22 ∨ w = 23 ∨ w = 24 ∨ w = 25 by omega) with e | e | e | e | e
    all_goals subst e
    · exact ⟨K, r2, r3, r4, r5, r6, ⟨rfl, u2, u3, u4, u5⟩, r8, r9⟩
    · exact ⟨K, r2, r3, r4, r5, r6, ⟨u1, rfl, u3, u4, u5⟩, r8, r9⟩
    · exact ⟨K, r2, r3, r4, r5, r6, ⟨u1, u2, rfl, u4, u5⟩, r8, r9⟩
    · exact ⟨K, r2, r3, r4, r5, r6, ⟨u1, u2, u3, rfl, u5⟩, r8, r9⟩
    · exact ⟨K, r2, r3, r4, r5, r6, ⟨u1, u2, u3, u4, rfl⟩, r8, r9⟩
  have R3 := R2.kg hk
  have hj := stJ_in w
  refine ⟨NXT S a q k v, hR.s hf ⟨a, q, k, v, t.1, rfl⟩, ?_, ?_, NXT_66, ?_, ?_, ?_, ?_⟩
  · rw [eN]; exact FIN_not (s := 9) rfl (by decide)
  · rw [eN]; rfl
  · rw [eN]; exact R3
  · rw [eN]
    show (if (3 : Int) = stJ w then v else S 68 3) = S 68 3
    rw [if_neg (by omega)]
  · rw [eN]
    show (if (2 : Int) = stJ w then v else S 68 2) = S 68 2
    rw [if_neg (by omega)]
  · rw [NXT_66]; exact hpq
theorem RS_end {T : Int → Int} {L a q k v : Int} {σ0 S0 S σ : gH} (hR : RCH T L S0 S) (hf : ¬ FIN S) (I : INVb L S) (h9 : S 57 6 = 9) (t : TKS T L (S 66 4) a q k v σ) (hk59 : k = 59) (R : RLB L σ0 S σ False 0) (h175 : σ 175 6 = S 68 3) : RDN T L σ0 S0 S σ := by
  have tin := TOKN_in I.1.2.2.2 t.1
  have hpq := (tin.2.2.1 (by omega)).1
  have to := t.rest.2.2.2 (by omega)
  have eN : NXT S a q k v = gUp (gUp (gUp (ADV S a q k v) 68 2 (S 68 2 + 1)) 57 6 0) 57 3 0 := by
    unfold NXT
    rw [TAK_9 (M := ADV S a q k v) h9]
    unfold LTF
    rw [if_neg (by omega)]
    rfl
  refine ⟨NXT S a q k v, hR.s hf ⟨a, q, k, v, t.1, rfl⟩, ?_, ?_, ?_, ?_, ?_, ?_, ?_⟩
  · rw [eN]; exact FIN_not (s := 0) rfl (by decide)
  · rw [eN]; rfl
  · rw [eN]; exact R
  · rw [eN]; exact h175
  · rw [NXT_66]; exact to
  · rw [NXT_66]; exact hpq
  · rw [eN]; rfl
theorem RS_bad {a q k v : Int} {S : gH} (h9 : S 57 6 = 9) (hk : k ≠ 59) : (TAK (ADV S a q k v) k v).2 = 1 := by
  rw [TAK_9 (M := ADV S a q k v) h9]
  unfold LTF
  rw [if_pos hk]
