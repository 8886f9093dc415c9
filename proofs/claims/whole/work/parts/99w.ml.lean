/-! the reference reads a law (gen/mod_ml.py) -/
theorem KR.rd {σ σ' : gH} (h : KR σ σ') {k : Nat} {i : Int} (q : isR k i = false) : σ' k i = σ k i := h k i q
/-- a row's part laid elsewhere -/
def cpy (R : Int → Int) (a n : Int) (U : Int → Int) (b : Int) : Int → Int := fun j => if a ≤ j ∧ j < a + n then U (b + (j - a)) else R j
theorem cpy_0 {R U : Int → Int} {a b : Int} : cpy R a 0 U b = R := funext fun j => if_neg (by omega)
theorem cpy_s {R U : Int → Int} {a n b v : Int} (h : 0 ≤ n) (hv : v = U (b + n)) : updI (cpy R a n U b) (a + n) v = cpy R a (n + 1) U b := funext fun j => by
  unfold updI cpy
  by_cases c : j = a + n
  · rw [if_pos c, if_pos (by omega), hv, c, show b + (a + n - a) = b + n by omega]
  · rw [if_neg c]
    by_cases d : a ≤ j ∧ j < a + n
    · rw [if_pos d, if_pos (by omega)]
    · rw [if_neg d, if_neg (by omega)]
theorem cpy_hi {R U : Int → Int} {a n b j : Int} (h : a + n ≤ j) : cpy R a n U b j = R j := if_neg (by omega)
theorem cpy_lo {R U : Int → Int} {a n b j : Int} (h : j < a) : cpy R a n U b j = R j := if_neg (by omega)
theorem cpy_in {R U : Int → Int} {a n b j : Int} (h : a ≤ j ∧ j < a + n) : cpy R a n U b j = U (b + (j - a)) := if_pos h
/-- the law as it was read, laid under its number -/
def CPS (σ : gH) (l f d z : Int) : gH := gUp (gUr (gUr (gUr (gUr (gUr (gUr (gUr (gUp (gUp (gUp σ 173 l f) 174 l d) 175 l (σ 175 6)) 176 (cpy (σ 176) (8 * l) 8 (σ 176) 48)) 177 (cpy (σ 177) (5 * l) 5 (σ 177) 30)) 178 (cpy (σ 178) (10 * l) 10 (σ 178) 60)) 179 (cpy (σ 179) (10 * l) 10 (σ 179) 60)) 180 (cpy (σ 180) (200 * l) z (σ 180) 1200)) 181 (cpy (σ 181) (200 * l) z (σ 181) 1200)) 182 (cpy (σ 182) (200 * l) z (σ 182) 1200)) 133 77 (l + 1)
/-- the state that the reading begins with -/
def BG0 (S : gH) : Prop := S 57 3 = 0 ∧ S 57 6 = 0 ∧ S 57 7 = 0 ∧ S 57 13 = 0 ∧ S 66 4 = 0 ∧ S 68 2 = 0 ∧ S 68 3 = 0 ∧ (S 68 4 = 1 ∧ S 68 5 = 365 ∧ S 68 6 = 365 ∧ S 68 7 = 90 ∧ S 68 8 = 0) ∧ S 68 15 = 0 ∧ ∀ r, 0 ≤ r → r < 10 → S 70 r = S 71 r
/-- the reference's store as the reading begins -/
def MLB (σ : gH) : gH := gUp (gUr (gUr (gUp (gUp (gUp (gUp (gUp (gUp (gUp (gUp σ 133 0 0) 133 54 (σ 133 2)) 133 2 0) 133 60 0) 133 62 0) 133 82 0) 133 83 0) 175 6 0) 178 (pfl (σ 178) 60 10 (-1))) 177 (cpy (σ 177) 30 5 (σ 183) 0)) 133 55 0
theorem RCH_pl {T : Int → Int} {L : Int} {S0 B : gH} (I0 : INV L S0) (h0 : S0 57 3 = 0) (h : RCH T L S0 B) (hB : B 57 3 ≠ 0) (hL : 0 ≤ L ∧ L ≤ 540) : 0 ≤ B 66 3 ∧ B 66 3 ≤ 540 := by
  obtain ⟨n, t⟩ := h
  cases n with
  | zero =>
    have e : S0 = B := t
    rw [← e] at hB
    exact absurd h0 hB
  | succ n =>
    obtain ⟨M, m1, m2, a, q, k, v, t, e⟩ := t
    have IM := (I0.trc m1) (Classical.not_not.mp fun c => m2 (Or.inl c))
    rw [e, NXT_66a]
    exact TOKN_pl IM.1.2.2.2.1 hL t
theorem ML_end {T : Int → Int} {L a q k v : Int} {S0 S σb σ : gH} (hR : RCH T L S0 S) (hf : ¬ FIN S) (I : INVb L S) (h0 : S 57 6 = 0) (t : TKS T L (S 66 4) a q k v σ) (hk : k = 0) (hL : L ≤ 500) (R : RLB L σb S σ False 0) (h175 : σ 175 6 = S 68 3) : ∃ B, RCH T L S0 B ∧ FIN B ∧ B 57 3 = 0 ∧ B 57 6 = 10 ∧ RLB L σb B σ False 0 ∧ σ 175 6 = B 68 3 ∧ B 68 2 = S 68 2 := by
  have eN : NXT S a q k v = gUp (gUp (ADV S a q k v) 57 6 10) 57 3 0 := by
    unfold NXT
    rw [TAK_0 (M := ADV S a q k v) h0, if_pos hk]
    show gUp (gUp (ADV S a q k v) 57 6 10) 57 3 (gb (500 < S 66 1)) = _
    rw [gb_f (show ¬ 500 < S 66 1 by rw [I.1.2.1]; omega)]
  refine ⟨NXT S a q k v, hR.s hf ⟨a, q, k, v, t.1, rfl⟩, Or.inr ?_, ?_, ?_, ?_, ?_, ?_⟩
  · rw [eN]; rfl
  · rw [eN]; rfl
  · rw [eN]; rfl
  · rw [eN]; exact R
  · rw [eN]; exact h175
  · rw [eN]; rfl
theorem ML_beg {T : Int → Int} {L : Int} {S0 σ σb : gH} (hb : σb = MLB σ) (hB : BG0 S0) (hL : σ 133 2 = L) (hus : σ 183 0 = 1 ∧ σ 183 1 = 365 ∧ σ 183 2 = 365 ∧ σ 183 3 = 90 ∧ σ 183 4 = 0) : RLB L σb S0 σb False 0 ∧ σb 175 6 = S0 68 3 := by
  obtain ⟨b1, b2, b3, b4, b5, b6, b7, ⟨n4, n5, n6, n7, n8⟩, b9, b10⟩ := hB
  subst hb
  refine ⟨⟨KR.refl, hL, b4.symm, b9.symm, fun k a b => by omega, fun k a b => by omega, ?_, ?_, fun r a b _ => Or.inl ⟨b10 r a b, ?_⟩⟩, b7.symm⟩
  · rw [n4, n5, n6, n7, n8]
    obtain ⟨u0, u1, u2, u3, u4⟩ := hus
    have g : ∀ j : Int, 0 ≤ j → j < 5 → (MLB σ) 177 (30 + j) = σ 183 j := fun j a b => by
      show cpy (σ 177) 30 5 (σ 183) 0 (30 + j) = _
      rw [cpy_in (by omega), show (0 : Int) + (30 + j - 30) = j by omega]
    exact ⟨(g 0 (by decide) (by decide)).trans u0, (g 1 (by decide) (by decide)).trans u1, (g 2 (by decide) (by decide)).trans u2, (g 3 (by decide) (by decide)).trans u3, (g 4 (by decide) (by decide)).trans u4⟩
  · rw [b3]
    intro w hw
    have t := TLB_in hw
    exact ⟨fun x => absurd x (bit3_0 (by omega) (by omega)), fun x => absurd x (bit3_0 (by omega) (by omega))⟩
  · show pfl (σ 178) 60 10 (-1) (60 + r) = -1
    exact if_pos (by omega)
theorem mr_lawN {σ : gH} (f : Int) (hn : 0 ≤ σ 133 77 ∧ σ 133 77 ≤ 6) (h : σ 133 77 = 6 ∨ ¬ isDy f) : Mt mX12_law 30 [gR 133, gI f] σ (rE (gI (-1000)) (gUp (gUp (gUp σ 133 0 0) 133 54 (σ 133 2)) 133 2 0)) := by
  refine Mt.walk (ls := [gR 133, gI f, gX 1, gX 1, gX 1]) pn_X12 rfl (fun _ _ h => by cases h.1) (Nat.le_of_ble_eq_true rfl) rfl ?_
  unfold isDy at h
  refine w_aload_n (pc' := 1) (i := 0) (by rfl) (by rfl) dX12_law_0 rfl ?_
  refine w_iconst (pc' := 2) (by decide) dX12_law_1 rfl ?_
  refine v_putI (pc' := 5) (ji := 0) rfl fp_X12_244 kd_133 sf_X12_0 dX12_law_2 rfl ?_
  refine w_aload_n (pc' := 6) (i := 0) (by rfl) (by rfl) dX12_law_5 rfl ?_
  refine w_aload_n (pc' := 7) (i := 0) (by rfl) (by rfl) dX12_law_6 rfl ?_
  refine v_getI (pc' := 10) (ji := 2) rfl fg_X12_247 kd_133 dX12_law_7 rfl ?_
  show Wp _ _ _ _ _ _ [gI (σ 133 2), gR 133]
  refine v_putI (pc' := 13) (ji := 54) rfl fp_X12_376 kd_133 sf_X12_54 dX12_law_10 rfl ?_
  refine w_aload_n (pc' := 14) (i := 0) (by rfl) (by rfl) dX12_law_13 rfl ?_
  refine w_iconst (pc' := 15) (by decide) dX12_law_14 rfl ?_
  refine v_putI (pc' := 18) (ji := 2) rfl fp_X12_247 kd_133 sf_X12_2 dX12_law_15 rfl ?_
  refine w_aload_n (pc' := 19) (i := 0) (by rfl) (by rfl) dX12_law_18 rfl ?_
  refine v_getI (pc' := 22) (ji := 77) rfl fg_X12_494 kd_133 dX12_law_19 rfl ?_
  show Wp _ _ _ _ _ _ [gI (σ 133 77)]
  refine w_bipush (pc' := 24) (by decide) (by decide) dX12_law_22 rfl ?_
  refine w_icmp_eq (pc' := 27) (t := 34) dX12_law_24 rfl rfl (fun c_24 => ?_) (fun c_24 => ?_)
  · skip
    refine w_sipush (pc' := 37) (by decide) (by decide) dX12_law_34 rfl ?_
    refine v_ireturn rfl dX12_law_37 ?_
    exact ⟨rfl, rfl⟩
  · skip
    refine w_iload_n (pc' := 28) (i := 1) (by rfl) (by rfl) dX12_law_27 rfl ?_
    refine v_callSE (pc' := 31) (st' := [gI (gb (0 ≤ f ∧ f ≤ 9999))]) (d' := 0) (av := [gI f]) ms_mX12_isDay st_mX12_isDay lk_X12_279 rfl rfl (Nat.le_of_ble_eq_true rfl) (Nat.le_of_ble_eq_true rfl) dX12_law_28 rfl rfl (mo_isDay (gUp (gUp (gUp σ 133 0 0) 133 54 (σ 133 2)) 133 2 0) f) ?_
    refine v_if_neB (pc' := 34) (t := 38) dX12_law_31 rfl rfl (fun c_31 => ?_) (fun c_31 => ?_)
    · skip
      exfalso; omega
    · skip
      refine w_sipush (pc' := 37) (by decide) (by decide) dX12_law_34 rfl ?_
      refine v_ireturn rfl dX12_law_37 ?_
      exact ⟨rfl, rfl⟩
set_option maxHeartbeats 4000000 in
theorem mr_law {T : Int → Int} {L : Int} {S0 σ : gH} (I0 : INV L S0) (hB : BG0 S0) (eT : T = σ 134) (hL : σ 133 2 = L) (hLL : 0 ≤ L ∧ L ≤ 540) (f : Int) (hf : isDy f) (hn : 0 ≤ σ 133 77 ∧ σ 133 77 < 6) (hcs : CST σ) (hus : σ 183 0 = 1 ∧ σ 183 1 = 365 ∧ σ 183 2 = 365 ∧ σ 183 3 = 90 ∧ σ 183 4 = 0) : Mt mX12_law 30 [gR 133, gI f] σ (fun v σ' => ∃ B, RCH T L S0 B ∧ FIN B ∧ ((B 57 3 ≠ 0 ∧ v = gI (-1 - B 66 3) ∧ σ' 133 60 = B 57 3 ∧ ∃ τ y z, KR (MLB σ) τ ∧ σ' = gUp (gUp τ 133 60 y) 133 61 z) ∨ (B 57 3 = 0 ∧ B 57 6 = 10 ∧ v = gI (B 68 2) ∧ ∃ τ, RLB L (MLB σ) B τ False 0 ∧ τ 175 6 = B 68 3 ∧ σ' = CPS τ (σ 133 77) f (σ 133 3) (B 68 15)))) := by
  refine Mt.walk (ls := [gR 133, gI f, gX 1, gX 1, gX 1]) pn_X12 rfl (fun _ _ h => by obtain ⟨_, _, _, h | h⟩ := h; (cases h.2.1); cases h.2.2.1) (Nat.le_of_ble_eq_true rfl) rfl ?_
  unfold isDy at hf
  refine w_aload_n (pc' := 1) (i := 0) (by rfl) (by rfl) dX12_law_0 rfl ?_
  refine w_iconst (pc' := 2) (by decide) dX12_law_1 rfl ?_
  refine v_putI (pc' := 5) (ji := 0) rfl fp_X12_244 kd_133 sf_X12_0 dX12_law_2 rfl ?_
  refine w_aload_n (pc' := 6) (i := 0) (by rfl) (by rfl) dX12_law_5 rfl ?_
  refine w_aload_n (pc' := 7) (i := 0) (by rfl) (by rfl) dX12_law_6 rfl ?_
  refine v_getI (pc' := 10) (ji := 2) rfl fg_X12_247 kd_133 dX12_law_7 rfl ?_
  show Wp _ _ _ _ _ _ [gI (σ 133 2), gR 133]
  refine v_putI (pc' := 13) (ji := 54) rfl fp_X12_376 kd_133 sf_X12_54 dX12_law_10 rfl ?_
  refine w_aload_n (pc' := 14) (i := 0) (by rfl) (by rfl) dX12_law_13 rfl ?_
  refine w_iconst (pc' := 15) (by decide) dX12_law_14 rfl ?_
  refine v_putI (pc' := 18) (ji := 2) rfl fp_X12_247 kd_133 sf_X12_2 dX12_law_15 rfl ?_
  refine w_aload_n (pc' := 19) (i := 0) (by rfl) (by rfl) dX12_law_18 rfl ?_
  refine v_getI (pc' := 22) (ji := 77) rfl fg_X12_494 kd_133 dX12_law_19 rfl ?_
  show Wp _ _ _ _ _ _ [gI (σ 133 77)]
  refine w_bipush (pc' := 24) (by decide) (by decide) dX12_law_22 rfl ?_
  refine w_icmp_eq (pc' := 27) (t := 34) dX12_law_24 rfl rfl (fun c_24 => ?_) (fun c_24 => ?_)
  · skip
    refine w_sipush (pc' := 37) (by decide) (by decide) dX12_law_34 rfl ?_
    refine v_ireturn rfl dX12_law_37 ?_
    exfalso; omega
  · skip
    refine w_iload_n (pc' := 28) (i := 1) (by rfl) (by rfl) dX12_law_27 rfl ?_
    refine v_callSE (pc' := 31) (st' := [gI (gb (0 ≤ f ∧ f ≤ 9999))]) (d' := 0) (av := [gI f]) ms_mX12_isDay st_mX12_isDay lk_X12_279 rfl rfl (Nat.le_of_ble_eq_true rfl) (Nat.le_of_ble_eq_true rfl) dX12_law_28 rfl rfl (mo_isDay (gUp (gUp (gUp σ 133 0 0) 133 54 (σ 133 2)) 133 2 0) f) ?_
    refine v_if_neB (pc' := 34) (t := 38) dX12_law_31 rfl rfl (fun c_31 => ?_) (fun c_31 => ?_)
    · skip
      refine w_aload_n (pc' := 39) (i := 0) (by rfl) (by rfl) dX12_law_38 rfl ?_
      refine w_iconst (pc' := 40) (by decide) dX12_law_39 rfl ?_
      refine v_putI (pc' := 43) (ji := 60) rfl fp_X12_403 kd_133 sf_X12_60 dX12_law_40 rfl ?_
      refine w_aload_n (pc' := 44) (i := 0) (by rfl) (by rfl) dX12_law_43 rfl ?_
      refine w_iconst (pc' := 45) (by decide) dX12_law_44 rfl ?_
      refine v_putI (pc' := 48) (ji := 62) rfl fp_X12_491 kd_133 sf_X12_62 dX12_law_45 rfl ?_
      refine w_aload_n (pc' := 49) (i := 0) (by rfl) (by rfl) dX12_law_48 rfl ?_
      refine w_iconst (pc' := 50) (by decide) dX12_law_49 rfl ?_
      refine v_putI (pc' := 53) (ji := 82) rfl fp_X12_454 kd_133 sf_X12_82 dX12_law_50 rfl ?_
      refine w_aload_n (pc' := 54) (i := 0) (by rfl) (by rfl) dX12_law_53 rfl ?_
      refine w_iconst (pc' := 55) (by decide) dX12_law_54 rfl ?_
      refine v_putI (pc' := 58) (ji := 83) rfl fp_X12_426 kd_133 sf_X12_83 dX12_law_55 rfl ?_
      refine w_aload_n (pc' := 59) (i := 0) (by rfl) (by rfl) dX12_law_58 rfl ?_
      refine w_getS (pc' := 62) (q := 175) fg_X12_145 kd_133 sf_X12_66 gr_133_66 dX12_law_59 rfl ?_
      refine w_bipush (pc' := 64) (by decide) (by decide) dX12_law_62 rfl ?_
      refine w_iconst (pc' := 65) (by decide) dX12_law_64 rfl ?_
      refine w_iast (pc' := 66) kd_175 (by omega) (by omega) dX12_law_65 rfl ?_
      refine w_iconst (pc' := 67) (by decide) dX12_law_66 rfl ?_
      refine w_istore_n (pc' := 68) (i := 2) (ls' := [gR 133, gI f, gI 0, gX 1, gX 1]) (by rfl) (by decide) (by rfl) dX12_law_67 rfl ?_
      have hl_68 : ∀ (mm : Nat) (i178 : Int) (F : Int → Int), (10 - i178).toNat = mm → (0 ≤ i178) → (i178 ≤ 10) → (F = pfl (σ 178) 60 i178 (-1)) → Wp mX12_law 30 (fun v σ' => ∃ B, RCH T L S0 B ∧ FIN B ∧ ((B 57 3 ≠ 0 ∧ v = gI (-1 - B 66 3) ∧ σ' 133 60 = B 57 3 ∧ ∃ τ y z, KR (MLB σ) τ ∧ σ' = gUp (gUp τ 133 60 y) 133 61 z) ∨ (B 57 3 = 0 ∧ B 57 6 = 10 ∧ v = gI (B 68 2) ∧ ∃ τ, RLB L (MLB σ) B τ False 0 ∧ τ 175 6 = B 68 3 ∧ σ' = CPS τ (σ 133 77) f (σ 133 3) (B 68 15)))) (gUr (gUp (gUp (gUp (gUp (gUp (gUp (gUp (gUp σ 133 0 0) 133 54 (σ 133 2)) 133 2 0) 133 60 0) 133 62 0) 133 82 0) 133 83 0) 175 6 0) 178 F) 68 [gR 133, gI f, gI i178, gX 1, gX 1] [] := by
        intro m_68
        induction m_68 using Nat.strongRecOn with
        | _ m_68 ih_68 =>
          intro i178 F hmeas_68 h0178 h1178 hr178
          refine w_iload_n (pc' := 69) (i := 2) (by rfl) (by rfl) dX12_law_68 rfl ?_
          refine w_bipush (pc' := 71) (by decide) (by decide) dX12_law_69 rfl ?_
          refine w_icmp_ge (pc' := 74) (t := 90) dX12_law_71 rfl rfl (fun c_71 => ?_) (fun c_71 => ?_)
          · skip
            refine w_iconst (pc' := 91) (by decide) dX12_law_90 rfl ?_
            refine w_istore_n (pc' := 92) (i := 2) (ls' := [gR 133, gI f, gI 0, gX 1, gX 1]) (by rfl) (by decide) (by rfl) dX12_law_91 rfl ?_
            have hl_92 : ∀ (mm : Nat) (i177 : Int) (N : Int → Int), (5 - i177).toNat = mm → (0 ≤ i177) → (i177 ≤ 5) → (N = cpy (σ 177) 30 i177 (σ 183) 0) → Wp mX12_law 30 (fun v σ' => ∃ B, RCH T L S0 B ∧ FIN B ∧ ((B 57 3 ≠ 0 ∧ v = gI (-1 - B 66 3) ∧ σ' 133 60 = B 57 3 ∧ ∃ τ y z, KR (MLB σ) τ ∧ σ' = gUp (gUp τ 133 60 y) 133 61 z) ∨ (B 57 3 = 0 ∧ B 57 6 = 10 ∧ v = gI (B 68 2) ∧ ∃ τ, RLB L (MLB σ) B τ False 0 ∧ τ 175 6 = B 68 3 ∧ σ' = CPS τ (σ 133 77) f (σ 133 3) (B 68 15)))) (gUr (gUr (gUp (gUp (gUp (gUp (gUp (gUp (gUp (gUp σ 133 0 0) 133 54 (σ 133 2)) 133 2 0) 133 60 0) 133 62 0) 133 82 0) 133 83 0) 175 6 0) 178 F) 177 N) 92 [gR 133, gI f, gI i177, gX 1, gX 1] [] := by
              intro m_92
              induction m_92 using Nat.strongRecOn with
              | _ m_92 ih_92 =>
                intro i177 N hmeas_92 h0177 h1177 hr177
                refine w_iload_n (pc' := 93) (i := 2) (by rfl) (by rfl) dX12_law_92 rfl ?_
                refine w_iconst (pc' := 94) (by decide) dX12_law_93 rfl ?_
                refine w_icmp_ge (pc' := 97) (t := 118) dX12_law_94 rfl rfl (fun c_94 => ?_) (fun c_94 => ?_)
                · skip
                  refine w_iconst (pc' := 119) (by decide) dX12_law_118 rfl ?_
                  refine w_istore_n (pc' := 120) (i := 2) (ls' := [gR 133, gI f, gI 0, gX 1, gX 1]) (by rfl) (by decide) (by rfl) dX12_law_119 rfl ?_
                  refine w_aload_n (pc' := 121) (i := 0) (by rfl) (by rfl) dX12_law_120 rfl ?_
                  refine w_iconst (pc' := 122) (by decide) dX12_law_121 rfl ?_
                  refine v_putI (pc' := 125) (ji := 55) rfl fp_X12_379 kd_133 sf_X12_55 dX12_law_122 rfl ?_
                  obtain ⟨σb, hb⟩ : ∃ s, s = MLB σ := ⟨_, rfl⟩
                  have hb2 : gUp (gUr (gUr (gUp (gUp (gUp (gUp (gUp (gUp (gUp (gUp σ 133 0 0) 133 54 (σ 133 2)) 133 2 0) 133 60 0) 133 62 0) 133 82 0) 133 83 0) 175 6 0) 178 F) 177 N) 133 55 0 = σb := by rw [hb, hr177, hr178, show i177 = 5 by omega, show i178 = 10 by omega]; rfl
                  refine Wp.heq (σ' := σb) hb2 ?_
                  refine w_aload_n (pc' := 126) (i := 0) (by rfl) (by rfl) dX12_law_125 rfl ?_
                  have eb54 : σb 133 54 = L := by rw [hb]; exact hL
                  have eb55 : σb 133 55 = 0 := by rw [hb]; rfl
                  have eb134 : σb 134 = T := by rw [hb]; exact eT.symm
                  have eb60 : σb 133 60 = 0 := by rw [hb]; rfl
                  have eb77 : σb 133 77 = σ 133 77 := by rw [hb]; rfl
                  have eb3 : σb 133 3 = σ 133 3 := by rw [hb]; rfl
                  have hcb : CST σb := by rw [hb]; exact hcs
                  have hML := ML_beg (T := T) hb hB hL hus
                  have hB2 := hB
                  refine w_callV (pc' := 129) (d' := 1) (av := []) mi_mX12_go lk_X12_444 rfl ci_X12 kd_133 rfl (Nat.le_of_ble_eq_true rfl) (Nat.le_of_ble_eq_true rfl) dX12_law_126 rfl (mg_go (σ := σb) (show σb 133 54 ≤ 540 by omega) (show 0 ≤ σb 133 55 ∧ σb 133 55 ≤ σb 133 54 by omega)) (fun v_126 σ126 q_126 => ?_)
                  obtain ⟨rfl, hk_126, ht_126⟩ := q_126
                  show Wp _ _ _ _ _ _ []
                  have hC126 : RCH T L S0 S0 ∧ ¬ FIN S0 ∧ S0 57 6 = 0 ∧ RLB L σb S0 σ126 False 0 ∧ σ126 175 6 = S0 68 3 ∧ MTK T L (S0 66 4) σ126 ∧ 0 = S0 68 2 := ⟨⟨0, rfl⟩, fun c => c.elim (fun c => c hB2.1) (fun c => by rw [hB2.2.1] at c; exact absurd c (by decide)), hB2.2.1, hML.1.kg hk_126, by rw [hk_126.row (k := 175) (by decide)]; exact hML.2, by rw [hB2.2.2.2.2.1]; exact ht_126.tr eb134 eb54 eb55, hB2.2.2.2.2.2.1.symm⟩
                  have hl_129 : ∀ (mm : Nat) (n : Int) (σl Sl : gH), (541 - Sl 66 4).toNat = mm → (RCH T L S0 Sl ∧ ¬ FIN Sl ∧ Sl 57 6 = 0 ∧ RLB L σb Sl σl False 0 ∧ σl 175 6 = Sl 68 3 ∧ MTK T L (Sl 66 4) σl ∧ n = Sl 68 2) → Wp mX12_law 30 (fun v σ' => ∃ B, RCH T L S0 B ∧ FIN B ∧ ((B 57 3 ≠ 0 ∧ v = gI (-1 - B 66 3) ∧ σ' 133 60 = B 57 3 ∧ ∃ τ y z, KR (MLB σ) τ ∧ σ' = gUp (gUp τ 133 60 y) 133 61 z) ∨ (B 57 3 = 0 ∧ B 57 6 = 10 ∧ v = gI (B 68 2) ∧ ∃ τ, RLB L (MLB σ) B τ False 0 ∧ τ 175 6 = B 68 3 ∧ σ' = CPS τ (σ 133 77) f (σ 133 3) (B 68 15)))) σl 129 [gR 133, gI f, gI n, gX 1, gX 1] [] := by
                    intro m_129
                    induction m_129 using Nat.strongRecOn with
                    | _ m_129 ih_129 =>
                      intro n σl Sl hmeas_129 hC
                      have f0l : Sl 57 3 = 0 := Classical.not_not.mp fun c => hC.2.1 (Or.inl c)
                      have Il : INVb L Sl := (hC.1.inv I0) f0l
                      have hpL : 0 ≤ Sl 66 4 ∧ Sl 66 4 ≤ L := Il.1.2.2.2
                      obtain ⟨a, q, k, v, hTl⟩ := hC.2.2.2.2.2.1.of
                      have h57 := hTl.rest.1
                      have hru := Il.2.2.1.2.1
                      have hru0 := Il.2.2.1.1
                      have hn3 := hC.2.2.2.2.2.2
                      refine w_aload_n (pc' := 130) (i := 0) (by rfl) (by rfl) dX12_law_129 rfl ?_
                      refine v_getI (pc' := 133) (ji := 57) rfl fg_X12_385 kd_133 dX12_law_130 rfl ?_
                      refine w_if_eq (pc' := 136) (t := 160) dX12_law_133 rfl rfl (fun c_133 => ?_) (fun c_133 => ?_)
                      · skip
                        obtain ⟨B, b1, b2, b3, b4, b5, b6, b7⟩ := ML_end hC.1 hC.2.1 Il hC.2.2.1 hTl (by omega) (by omega) hC.2.2.2.1 hC.2.2.2.2.1
                        have IB : INVb L B := (b1.inv I0) b3
                        have hzB : 0 ≤ B 68 15 ∧ B 68 15 ≤ 120 := by
                          have x1 := IB.2.2.2.2.1
                          have x2 := IB.2.2.2.1
                          have x3 := IB.2.2.2.2.2.2.1 (by rw [b4]; omega)
                          omega
                        have hn6 : 0 ≤ σb 133 77 ∧ σb 133 77 < 6 := by rw [eb77]; exact hn
                        have e83 : σl 133 83 = B 68 15 := b5.2.2.2.1
                        refine w_aload_n (pc' := 161) (i := 0) (by rfl) (by rfl) dX12_law_160 rfl ?_
                        refine v_getI (pc' := 164) (ji := 77) rfl fg_X12_494 kd_133 dX12_law_161 rfl ?_
                        rw [(hC.2.2.2.1.1).rd (k := 133) (i := 77) rfl]
                        refine w_istore_n (pc' := 165) (i := 3) (ls' := [gR 133, gI f, gI n, gI (σb 133 77), gX 1]) (by rfl) (by decide) (by rfl) dX12_law_164 rfl ?_
                        refine w_aload_n (pc' := 166) (i := 0) (by rfl) (by rfl) dX12_law_165 rfl ?_
                        refine w_getS (pc' := 169) (q := 173) fg_X12_139 kd_133 sf_X12_64 gr_133_64 dX12_law_166 rfl ?_
                        refine w_iload_n (pc' := 170) (i := 3) (by rfl) (by rfl) dX12_law_169 rfl ?_
                        refine w_iload_n (pc' := 171) (i := 1) (by rfl) (by rfl) dX12_law_170 rfl ?_
                        refine w_iast (pc' := 172) kd_173 (by omega) (by omega) dX12_law_171 rfl ?_
                        refine w_aload_n (pc' := 173) (i := 0) (by rfl) (by rfl) dX12_law_172 rfl ?_
                        refine w_getS (pc' := 176) (q := 174) fg_X12_142 kd_133 sf_X12_65 gr_133_65 dX12_law_173 rfl ?_
                        refine w_iload_n (pc' := 177) (i := 3) (by rfl) (by rfl) dX12_law_176 rfl ?_
                        refine w_aload_n (pc' := 178) (i := 0) (by rfl) (by rfl) dX12_law_177 rfl ?_
                        refine v_getI (pc' := 181) (ji := 3) rfl fg_X12_258 kd_133 dX12_law_178 rfl ?_
                        show Wp _ _ _ _ _ _ [gI (σl 133 3), gI (σb 133 77), gR 174]
                        rw [(hC.2.2.2.1.1).rd (k := 133) (i := 3) rfl]
                        refine w_iast (pc' := 182) kd_174 (by omega) (by omega) dX12_law_181 rfl ?_
                        refine w_aload_n (pc' := 183) (i := 0) (by rfl) (by rfl) dX12_law_182 rfl ?_
                        refine w_getS (pc' := 186) (q := 175) fg_X12_145 kd_133 sf_X12_66 gr_133_66 dX12_law_183 rfl ?_
                        refine w_iload_n (pc' := 187) (i := 3) (by rfl) (by rfl) dX12_law_186 rfl ?_
                        refine w_aload_n (pc' := 188) (i := 0) (by rfl) (by rfl) dX12_law_187 rfl ?_
                        refine w_getS (pc' := 191) (q := 175) fg_X12_145 kd_133 sf_X12_66 gr_133_66 dX12_law_188 rfl ?_
                        refine w_bipush (pc' := 193) (by decide) (by decide) dX12_law_191 rfl ?_
                        refine w_iald (pc' := 194) kd_175 (by omega) (by omega) dX12_law_193 rfl ?_
                        show Wp _ _ _ _ _ _ [gI (σl 175 6), gI (σb 133 77), gR 175]
                        refine w_iast (pc' := 195) kd_175 (by omega) (by omega) dX12_law_194 rfl ?_
                        refine w_iconst (pc' := 196) (by decide) dX12_law_195 rfl ?_
                        refine w_istore (pc' := 198) (ls' := [gR 133, gI f, gI n, gI (σb 133 77), gI 0]) (by decide) (by rfl) dX12_law_196 rfl ?_
                        have hl_198 : ∀ (mm : Nat) (j176 : Int) (WW : Int → Int), (8 - j176).toNat = mm → (0 ≤ j176) → (j176 ≤ 8) → (WW = cpy (σl 176) (8 * (σb 133 77)) j176 (σl 176) 48) → Wp mX12_law 30 (fun v σ' => ∃ B, RCH T L S0 B ∧ FIN B ∧ ((B 57 3 ≠ 0 ∧ v = gI (-1 - B 66 3) ∧ σ' 133 60 = B 57 3 ∧ ∃ τ y z, KR (MLB σ) τ ∧ σ' = gUp (gUp τ 133 60 y) 133 61 z) ∨ (B 57 3 = 0 ∧ B 57 6 = 10 ∧ v = gI (B 68 2) ∧ ∃ τ, RLB L (MLB σ) B τ False 0 ∧ τ 175 6 = B 68 3 ∧ σ' = CPS τ (σ 133 77) f (σ 133 3) (B 68 15)))) (gUr (gUp (gUp (gUp σl 173 (σb 133 77) f) 174 (σb 133 77) (σb 133 3)) 175 (σb 133 77) (σl 175 6)) 176 WW) 198 [gR 133, gI f, gI n, gI (σb 133 77), gI j176] [] := by
                          intro m_198
                          induction m_198 using Nat.strongRecOn with
                          | _ m_198 ih_198 =>
                            intro j176 WW hmeas_198 k0176 k1176 kr176
                            refine w_iload (pc' := 200) (by rfl) dX12_law_198 rfl ?_
                            refine w_bipush (pc' := 202) (by decide) (by decide) dX12_law_200 rfl ?_
                            refine w_icmp_ge (pc' := 205) (t := 233) dX12_law_202 rfl rfl (fun c_202 => ?_) (fun c_202 => ?_)
                            · skip
                              refine w_iconst (pc' := 234) (by decide) dX12_law_233 rfl ?_
                              refine w_istore (pc' := 236) (ls' := [gR 133, gI f, gI n, gI (σb 133 77), gI 0]) (by decide) (by rfl) dX12_law_234 rfl ?_
                              have hl_236 : ∀ (mm : Nat) (j177 : Int) (NN : Int → Int), (5 - j177).toNat = mm → (0 ≤ j177) → (j177 ≤ 5) → (NN = cpy (σl 177) (5 * (σb 133 77)) j177 (σl 177) 30) → Wp mX12_law 30 (fun v σ' => ∃ B, RCH T L S0 B ∧ FIN B ∧ ((B 57 3 ≠ 0 ∧ v = gI (-1 - B 66 3) ∧ σ' 133 60 = B 57 3 ∧ ∃ τ y z, KR (MLB σ) τ ∧ σ' = gUp (gUp τ 133 60 y) 133 61 z) ∨ (B 57 3 = 0 ∧ B 57 6 = 10 ∧ v = gI (B 68 2) ∧ ∃ τ, RLB L (MLB σ) B τ False 0 ∧ τ 175 6 = B 68 3 ∧ σ' = CPS τ (σ 133 77) f (σ 133 3) (B 68 15)))) (gUr (gUr (gUp (gUp (gUp σl 173 (σb 133 77) f) 174 (σb 133 77) (σb 133 3)) 175 (σb 133 77) (σl 175 6)) 176 WW) 177 NN) 236 [gR 133, gI f, gI n, gI (σb 133 77), gI j177] [] := by
                                intro m_236
                                induction m_236 using Nat.strongRecOn with
                                | _ m_236 ih_236 =>
                                  intro j177 NN hmeas_236 k0177 k1177 kr177
                                  refine w_iload (pc' := 238) (by rfl) dX12_law_236 rfl ?_
                                  refine w_iconst (pc' := 239) (by decide) dX12_law_238 rfl ?_
                                  refine w_icmp_ge (pc' := 242) (t := 269) dX12_law_239 rfl rfl (fun c_239 => ?_) (fun c_239 => ?_)
                                  · skip
                                    refine w_iconst (pc' := 270) (by decide) dX12_law_269 rfl ?_
                                    refine w_istore (pc' := 272) (ls' := [gR 133, gI f, gI n, gI (σb 133 77), gI 0]) (by decide) (by rfl) dX12_law_270 rfl ?_
                                    have hl_272 : ∀ (mm : Nat) (j178 : Int) (FF : Int → Int) (TT : Int → Int), (10 - j178).toNat = mm → (0 ≤ j178) → (j178 ≤ 10) → (FF = cpy (σl 178) (10 * (σb 133 77)) j178 (σl 178) 60) → (TT = cpy (σl 179) (10 * (σb 133 77)) j178 (σl 179) 60) → Wp mX12_law 30 (fun v σ' => ∃ B, RCH T L S0 B ∧ FIN B ∧ ((B 57 3 ≠ 0 ∧ v = gI (-1 - B 66 3) ∧ σ' 133 60 = B 57 3 ∧ ∃ τ y z, KR (MLB σ) τ ∧ σ' = gUp (gUp τ 133 60 y) 133 61 z) ∨ (B 57 3 = 0 ∧ B 57 6 = 10 ∧ v = gI (B 68 2) ∧ ∃ τ, RLB L (MLB σ) B τ False 0 ∧ τ 175 6 = B 68 3 ∧ σ' = CPS τ (σ 133 77) f (σ 133 3) (B 68 15)))) (gUr (gUr (gUr (gUr (gUp (gUp (gUp σl 173 (σb 133 77) f) 174 (σb 133 77) (σb 133 3)) 175 (σb 133 77) (σl 175 6)) 176 WW) 177 NN) 178 FF) 179 TT) 272 [gR 133, gI f, gI n, gI (σb 133 77), gI j178] [] := by
                                      intro m_272
                                      induction m_272 using Nat.strongRecOn with
                                      | _ m_272 ih_272 =>
                                        intro j178 FF TT hmeas_272 k0178 k1178 hrFF hrTT
                                        refine w_iload (pc' := 274) (by rfl) dX12_law_272 rfl ?_
                                        refine w_bipush (pc' := 276) (by decide) (by decide) dX12_law_274 rfl ?_
                                        refine w_icmp_ge (pc' := 279) (t := 329) dX12_law_276 rfl rfl (fun c_276 => ?_) (fun c_276 => ?_)
                                        · skip
                                          refine w_iconst (pc' := 330) (by decide) dX12_law_329 rfl ?_
                                          refine w_istore (pc' := 332) (ls' := [gR 133, gI f, gI n, gI (σb 133 77), gI 0]) (by decide) (by rfl) dX12_law_330 rfl ?_
                                          have hl_332 : ∀ (mm : Nat) (j180 : Int) (PP : Int → Int) (PS : Int → Int) (PN : Int → Int), ((B 68 15) - j180).toNat = mm → (0 ≤ j180) → (j180 ≤ (B 68 15)) → (PP = cpy (σl 180) (200 * (σb 133 77)) j180 (σl 180) 1200) → (PS = cpy (σl 181) (200 * (σb 133 77)) j180 (σl 181) 1200) → (PN = cpy (σl 182) (200 * (σb 133 77)) j180 (σl 182) 1200) → Wp mX12_law 30 (fun v σ' => ∃ B, RCH T L S0 B ∧ FIN B ∧ ((B 57 3 ≠ 0 ∧ v = gI (-1 - B 66 3) ∧ σ' 133 60 = B 57 3 ∧ ∃ τ y z, KR (MLB σ) τ ∧ σ' = gUp (gUp τ 133 60 y) 133 61 z) ∨ (B 57 3 = 0 ∧ B 57 6 = 10 ∧ v = gI (B 68 2) ∧ ∃ τ, RLB L (MLB σ) B τ False 0 ∧ τ 175 6 = B 68 3 ∧ σ' = CPS τ (σ 133 77) f (σ 133 3) (B 68 15)))) (gUr (gUr (gUr (gUr (gUr (gUr (gUr (gUp (gUp (gUp σl 173 (σb 133 77) f) 174 (σb 133 77) (σb 133 3)) 175 (σb 133 77) (σl 175 6)) 176 WW) 177 NN) 178 FF) 179 TT) 180 PP) 181 PS) 182 PN) 332 [gR 133, gI f, gI n, gI (σb 133 77), gI j180] [] := by
                                            intro m_332
                                            induction m_332 using Nat.strongRecOn with
                                            | _ m_332 ih_332 =>
                                              intro j180 PP PS PN hmeas_332 k0180 k1180 hrPP hrPS hrPN
                                              refine w_iload (pc' := 334) (by rfl) dX12_law_332 rfl ?_
                                              refine w_aload_n (pc' := 335) (i := 0) (by rfl) (by rfl) dX12_law_334 rfl ?_
                                              refine v_getI (pc' := 338) (ji := 83) rfl fg_X12_426 kd_133 dX12_law_335 rfl ?_
                                              show Wp _ _ _ _ _ _ [gI (σl 133 83), gI j180]
                                              refine w_icmp_ge (pc' := 341) (t := 419) dX12_law_338 rfl rfl (fun c_338 => ?_) (fun c_338 => ?_)
                                              · skip
                                                refine w_aload_n (pc' := 420) (i := 0) (by rfl) (by rfl) dX12_law_419 rfl ?_
                                                refine w_dup (pc' := 421) dX12_law_420 rfl ?_
                                                refine v_getI (pc' := 424) (ji := 77) rfl fg_X12_494 kd_133 dX12_law_421 rfl ?_
                                                show Wp _ _ _ _ _ _ [gI (σl 133 77), gR 133]
                                                rw [(hC.2.2.2.1.1).rd (k := 133) (i := 77) rfl]
                                                refine w_iconst (pc' := 425) (by decide) dX12_law_424 rfl ?_
                                                refine v_iadd (pc' := 426) (by omega) dX12_law_425 rfl ?_
                                                refine v_putI (pc' := 429) (ji := 77) rfl fp_X12_494 kd_133 sf_X12_77 dX12_law_426 rfl ?_
                                                refine w_iload_n (pc' := 430) (i := 2) (by rfl) (by rfl) dX12_law_429 rfl ?_
                                                refine v_ireturn rfl dX12_law_430 ?_
                                                rw [hb] at b5
                                                refine ⟨B, b1, b2, Or.inr ⟨b3, b4, by rw [b7, ← hn3], σl, b5, b6, ?_⟩⟩
                                                rw [kr176, kr177, hrFF, hrTT, hrPP, hrPS, hrPN, show j176 = 8 by omega, show j177 = 5 by omega, show j178 = 10 by omega, show j180 = B 68 15 by omega, eb77, eb3]
                                                rfl
                                              · skip
                                                refine w_aload_n (pc' := 342) (i := 0) (by rfl) (by rfl) dX12_law_341 rfl ?_
                                                refine w_getS (pc' := 345) (q := 180) fg_X12_160 kd_133 sf_X12_71 gr_133_71 dX12_law_342 rfl ?_
                                                refine w_sipush (pc' := 348) (by decide) (by decide) dX12_law_345 rfl ?_
                                                refine w_iload_n (pc' := 349) (i := 3) (by rfl) (by rfl) dX12_law_348 rfl ?_
                                                refine v_imul (pc' := 350) (by omega) dX12_law_349 rfl ?_
                                                refine w_iload (pc' := 352) (by rfl) dX12_law_350 rfl ?_
                                                refine v_iadd (pc' := 353) (by omega) dX12_law_352 rfl ?_
                                                refine w_aload_n (pc' := 354) (i := 0) (by rfl) (by rfl) dX12_law_353 rfl ?_
                                                refine w_getS (pc' := 357) (q := 180) fg_X12_160 kd_133 sf_X12_71 gr_133_71 dX12_law_354 rfl ?_
                                                refine w_sipush (pc' := 360) (by decide) (by decide) dX12_law_357 rfl ?_
                                                refine w_iload (pc' := 362) (by rfl) dX12_law_360 rfl ?_
                                                refine v_iadd (pc' := 363) (by omega) dX12_law_362 rfl ?_
                                                refine w_iald (pc' := 364) kd_180 (by omega) (by omega) dX12_law_363 rfl ?_
                                                show Wp _ _ _ _ _ _ [gI (PP (1200 + j180)), gI ((200 * (σb 133 77)) + j180), gR 180]
                                                refine w_iast (pc' := 365) kd_180 (by omega) (by omega) dX12_law_364 rfl ?_
                                                refine Wp.heq (σ' := gUr (gUr (gUr (gUr (gUr (gUr (gUr (gUp (gUp (gUp σl 173 (σb 133 77) f) 174 (σb 133 77) (σb 133 3)) 175 (σb 133 77) (σl 175 6)) 176 WW) 177 NN) 178 FF) 179 TT) 180 (updI PP ((200 * (σb 133 77)) + j180) (PP (1200 + j180)))) 181 PS) 182 PN) ((gUp_cr (by decide)).trans (congrArg (fun z => gUr z 182 PN) ((gUp_cr (by decide)).trans (congrArg (fun z => gUr z 181 PS) gUp_row)))) ?_
                                                refine w_aload_n (pc' := 366) (i := 0) (by rfl) (by rfl) dX12_law_365 rfl ?_
                                                refine w_getS (pc' := 369) (q := 181) fg_X12_163 kd_133 sf_X12_72 gr_133_72 dX12_law_366 rfl ?_
                                                refine w_sipush (pc' := 372) (by decide) (by decide) dX12_law_369 rfl ?_
                                                refine w_iload_n (pc' := 373) (i := 3) (by rfl) (by rfl) dX12_law_372 rfl ?_
                                                refine v_imul (pc' := 374) (by omega) dX12_law_373 rfl ?_
                                                refine w_iload (pc' := 376) (by rfl) dX12_law_374 rfl ?_
                                                refine v_iadd (pc' := 377) (by omega) dX12_law_376 rfl ?_
                                                refine w_aload_n (pc' := 378) (i := 0) (by rfl) (by rfl) dX12_law_377 rfl ?_
                                                refine w_getS (pc' := 381) (q := 181) fg_X12_163 kd_133 sf_X12_72 gr_133_72 dX12_law_378 rfl ?_
                                                refine w_sipush (pc' := 384) (by decide) (by decide) dX12_law_381 rfl ?_
                                                refine w_iload (pc' := 386) (by rfl) dX12_law_384 rfl ?_
                                                refine v_iadd (pc' := 387) (by omega) dX12_law_386 rfl ?_
                                                refine w_iald (pc' := 388) kd_181 (by omega) (by omega) dX12_law_387 rfl ?_
                                                show Wp _ _ _ _ _ _ [gI (PS (1200 + j180)), gI ((200 * (σb 133 77)) + j180), gR 181]
                                                refine w_iast (pc' := 389) kd_181 (by omega) (by omega) dX12_law_388 rfl ?_
                                                refine Wp.heq (σ' := gUr (gUr (gUr (gUr (gUr (gUr (gUr (gUp (gUp (gUp σl 173 (σb 133 77) f) 174 (σb 133 77) (σb 133 3)) 175 (σb 133 77) (σl 175 6)) 176 WW) 177 NN) 178 FF) 179 TT) 180 (updI PP ((200 * (σb 133 77)) + j180) (PP (1200 + j180)))) 181 (updI PS ((200 * (σb 133 77)) + j180) (PS (1200 + j180)))) 182 PN) ((gUp_cr (by decide)).trans (congrArg (fun z => gUr z 182 PN) gUp_row)) ?_
                                                refine w_aload_n (pc' := 390) (i := 0) (by rfl) (by rfl) dX12_law_389 rfl ?_
                                                refine w_getS (pc' := 393) (q := 182) fg_X12_166 kd_133 sf_X12_73 gr_133_73 dX12_law_390 rfl ?_
                                                refine w_sipush (pc' := 396) (by decide) (by decide) dX12_law_393 rfl ?_
                                                refine w_iload_n (pc' := 397) (i := 3) (by rfl) (by rfl) dX12_law_396 rfl ?_
                                                refine v_imul (pc' := 398) (by omega) dX12_law_397 rfl ?_
                                                refine w_iload (pc' := 400) (by rfl) dX12_law_398 rfl ?_
                                                refine v_iadd (pc' := 401) (by omega) dX12_law_400 rfl ?_
                                                refine w_aload_n (pc' := 402) (i := 0) (by rfl) (by rfl) dX12_law_401 rfl ?_
                                                refine w_getS (pc' := 405) (q := 182) fg_X12_166 kd_133 sf_X12_73 gr_133_73 dX12_law_402 rfl ?_
                                                refine w_sipush (pc' := 408) (by decide) (by decide) dX12_law_405 rfl ?_
                                                refine w_iload (pc' := 410) (by rfl) dX12_law_408 rfl ?_
                                                refine v_iadd (pc' := 411) (by omega) dX12_law_410 rfl ?_
                                                refine w_iald (pc' := 412) kd_182 (by omega) (by omega) dX12_law_411 rfl ?_
                                                show Wp _ _ _ _ _ _ [gI (PN (1200 + j180)), gI ((200 * (σb 133 77)) + j180), gR 182]
                                                refine w_iast (pc' := 413) kd_182 (by omega) (by omega) dX12_law_412 rfl ?_
                                                refine Wp.heq (σ' := gUr (gUr (gUr (gUr (gUr (gUr (gUr (gUp (gUp (gUp σl 173 (σb 133 77) f) 174 (σb 133 77) (σb 133 3)) 175 (σb 133 77) (σl 175 6)) 176 WW) 177 NN) 178 FF) 179 TT) 180 (updI PP ((200 * (σb 133 77)) + j180) (PP (1200 + j180)))) 181 (updI PS ((200 * (σb 133 77)) + j180) (PS (1200 + j180)))) 182 (updI PN ((200 * (σb 133 77)) + j180) (PN (1200 + j180)))) gUp_row ?_
                                                refine v_iinc (pc' := 416) (x := j180) (ls' := [gR 133, gI f, gI n, gI (σb 133 77), gI (j180 + 1)]) (by omega) (by decide) (by rfl) (by rfl) dX12_law_413 rfl ?_
                                                refine w_goto (pc' := 332) dX12_law_416 rfl ?_
                                                exact ih_332 _ (by omega) (j180 + 1) (updI PP ((200 * (σb 133 77)) + j180) (PP (1200 + j180))) (updI PS ((200 * (σb 133 77)) + j180) (PS (1200 + j180))) (updI PN ((200 * (σb 133 77)) + j180) (PN (1200 + j180))) rfl (by omega) (by omega) (by rw [hrPP, cpy_s (by omega) (cpy_hi (by omega))]) (by rw [hrPS, cpy_s (by omega) (cpy_hi (by omega))]) (by rw [hrPN, cpy_s (by omega) (cpy_hi (by omega))])
                                          refine Wp.heq (σ' := gUr (gUr (gUr (gUr (gUr (gUr (gUr (gUp (gUp (gUp σl 173 (σb 133 77) f) 174 (σb 133 77) (σb 133 3)) 175 (σb 133 77) (σl 175 6)) 176 WW) 177 NN) 178 FF) 179 TT) 180 (σl 180)) 181 (σl 181)) 182 (σl 182)) (((gUr_id (σ := gUr (gUr (gUr (gUr (gUp (gUp (gUp σl 173 (σb 133 77) f) 174 (σb 133 77) (σb 133 3)) 175 (σb 133 77) (σl 175 6)) 176 WW) 177 NN) 178 FF) 179 TT) (k := 180)).symm.trans (gUr_id (σ := gUr (gUr (gUr (gUr (gUr (gUp (gUp (gUp σl 173 (σb 133 77) f) 174 (σb 133 77) (σb 133 3)) 175 (σb 133 77) (σl 175 6)) 176 WW) 177 NN) 178 FF) 179 TT) 180 (σl 180)) (k := 181)).symm).trans (gUr_id (σ := gUr (gUr (gUr (gUr (gUr (gUr (gUp (gUp (gUp σl 173 (σb 133 77) f) 174 (σb 133 77) (σb 133 3)) 175 (σb 133 77) (σl 175 6)) 176 WW) 177 NN) 178 FF) 179 TT) 180 (σl 180)) 181 (σl 181)) (k := 182)).symm) ?_
                                          exact hl_332 _ 0 (σl 180) (σl 181) (σl 182) rfl (by omega) (by omega) (by exact cpy_0.symm) (by exact cpy_0.symm) (by exact cpy_0.symm)
                                        · skip
                                          refine w_aload_n (pc' := 280) (i := 0) (by rfl) (by rfl) dX12_law_279 rfl ?_
                                          refine w_getS (pc' := 283) (q := 178) fg_X12_154 kd_133 sf_X12_69 gr_133_69 dX12_law_280 rfl ?_
                                          refine w_bipush (pc' := 285) (by decide) (by decide) dX12_law_283 rfl ?_
                                          refine w_iload_n (pc' := 286) (i := 3) (by rfl) (by rfl) dX12_law_285 rfl ?_
                                          refine v_imul (pc' := 287) (by omega) dX12_law_286 rfl ?_
                                          refine w_iload (pc' := 289) (by rfl) dX12_law_287 rfl ?_
                                          refine v_iadd (pc' := 290) (by omega) dX12_law_289 rfl ?_
                                          refine w_aload_n (pc' := 291) (i := 0) (by rfl) (by rfl) dX12_law_290 rfl ?_
                                          refine w_getS (pc' := 294) (q := 178) fg_X12_154 kd_133 sf_X12_69 gr_133_69 dX12_law_291 rfl ?_
                                          refine w_bipush (pc' := 296) (by decide) (by decide) dX12_law_294 rfl ?_
                                          refine w_iload (pc' := 298) (by rfl) dX12_law_296 rfl ?_
                                          refine v_iadd (pc' := 299) (by omega) dX12_law_298 rfl ?_
                                          refine w_iald (pc' := 300) kd_178 (by omega) (by omega) dX12_law_299 rfl ?_
                                          show Wp _ _ _ _ _ _ [gI (FF (60 + j178)), gI ((10 * (σb 133 77)) + j178), gR 178]
                                          refine w_iast (pc' := 301) kd_178 (by omega) (by omega) dX12_law_300 rfl ?_
                                          refine Wp.heq (σ' := gUr (gUr (gUr (gUr (gUp (gUp (gUp σl 173 (σb 133 77) f) 174 (σb 133 77) (σb 133 3)) 175 (σb 133 77) (σl 175 6)) 176 WW) 177 NN) 178 (updI FF ((10 * (σb 133 77)) + j178) (FF (60 + j178)))) 179 TT) ((gUp_cr (by decide)).trans (congrArg (fun z => gUr z 179 TT) gUp_row)) ?_
                                          refine w_aload_n (pc' := 302) (i := 0) (by rfl) (by rfl) dX12_law_301 rfl ?_
                                          refine w_getS (pc' := 305) (q := 179) fg_X12_157 kd_133 sf_X12_70 gr_133_70 dX12_law_302 rfl ?_
                                          refine w_bipush (pc' := 307) (by decide) (by decide) dX12_law_305 rfl ?_
                                          refine w_iload_n (pc' := 308) (i := 3) (by rfl) (by rfl) dX12_law_307 rfl ?_
                                          refine v_imul (pc' := 309) (by omega) dX12_law_308 rfl ?_
                                          refine w_iload (pc' := 311) (by rfl) dX12_law_309 rfl ?_
                                          refine v_iadd (pc' := 312) (by omega) dX12_law_311 rfl ?_
                                          refine w_aload_n (pc' := 313) (i := 0) (by rfl) (by rfl) dX12_law_312 rfl ?_
                                          refine w_getS (pc' := 316) (q := 179) fg_X12_157 kd_133 sf_X12_70 gr_133_70 dX12_law_313 rfl ?_
                                          refine w_bipush (pc' := 318) (by decide) (by decide) dX12_law_316 rfl ?_
                                          refine w_iload (pc' := 320) (by rfl) dX12_law_318 rfl ?_
                                          refine v_iadd (pc' := 321) (by omega) dX12_law_320 rfl ?_
                                          refine w_iald (pc' := 322) kd_179 (by omega) (by omega) dX12_law_321 rfl ?_
                                          show Wp _ _ _ _ _ _ [gI (TT (60 + j178)), gI ((10 * (σb 133 77)) + j178), gR 179]
                                          refine w_iast (pc' := 323) kd_179 (by omega) (by omega) dX12_law_322 rfl ?_
                                          refine Wp.heq (σ' := gUr (gUr (gUr (gUr (gUp (gUp (gUp σl 173 (σb 133 77) f) 174 (σb 133 77) (σb 133 3)) 175 (σb 133 77) (σl 175 6)) 176 WW) 177 NN) 178 (updI FF ((10 * (σb 133 77)) + j178) (FF (60 + j178)))) 179 (updI TT ((10 * (σb 133 77)) + j178) (TT (60 + j178)))) gUp_row ?_
                                          refine v_iinc (pc' := 326) (x := j178) (ls' := [gR 133, gI f, gI n, gI (σb 133 77), gI (j178 + 1)]) (by omega) (by decide) (by rfl) (by rfl) dX12_law_323 rfl ?_
                                          refine w_goto (pc' := 272) dX12_law_326 rfl ?_
                                          exact ih_272 _ (by omega) (j178 + 1) (updI FF ((10 * (σb 133 77)) + j178) (FF (60 + j178))) (updI TT ((10 * (σb 133 77)) + j178) (TT (60 + j178))) rfl (by omega) (by omega) (by rw [hrFF, cpy_s (by omega) (cpy_hi (by omega))]) (by rw [hrTT, cpy_s (by omega) (cpy_hi (by omega))])
                                    refine Wp.heq (σ' := gUr (gUr (gUr (gUr (gUp (gUp (gUp σl 173 (σb 133 77) f) 174 (σb 133 77) (σb 133 3)) 175 (σb 133 77) (σl 175 6)) 176 WW) 177 NN) 178 (σl 178)) 179 (σl 179)) ((gUr_id (σ := gUr (gUr (gUp (gUp (gUp σl 173 (σb 133 77) f) 174 (σb 133 77) (σb 133 3)) 175 (σb 133 77) (σl 175 6)) 176 WW) 177 NN) (k := 178)).symm.trans (gUr_id (σ := gUr (gUr (gUr (gUp (gUp (gUp σl 173 (σb 133 77) f) 174 (σb 133 77) (σb 133 3)) 175 (σb 133 77) (σl 175 6)) 176 WW) 177 NN) 178 (σl 178)) (k := 179)).symm) ?_
                                    exact hl_272 _ 0 (σl 178) (σl 179) rfl (by omega) (by omega) (by exact cpy_0.symm) (by exact cpy_0.symm)
                                  · skip
                                    refine w_aload_n (pc' := 243) (i := 0) (by rfl) (by rfl) dX12_law_242 rfl ?_
                                    refine w_getS (pc' := 246) (q := 177) fg_X12_151 kd_133 sf_X12_68 gr_133_68 dX12_law_243 rfl ?_
                                    refine w_iconst (pc' := 247) (by decide) dX12_law_246 rfl ?_
                                    refine w_iload_n (pc' := 248) (i := 3) (by rfl) (by rfl) dX12_law_247 rfl ?_
                                    refine v_imul (pc' := 249) (by omega) dX12_law_248 rfl ?_
                                    refine w_iload (pc' := 251) (by rfl) dX12_law_249 rfl ?_
                                    refine v_iadd (pc' := 252) (by omega) dX12_law_251 rfl ?_
                                    refine w_aload_n (pc' := 253) (i := 0) (by rfl) (by rfl) dX12_law_252 rfl ?_
                                    refine w_getS (pc' := 256) (q := 177) fg_X12_151 kd_133 sf_X12_68 gr_133_68 dX12_law_253 rfl ?_
                                    refine w_bipush (pc' := 258) (by decide) (by decide) dX12_law_256 rfl ?_
                                    refine w_iload (pc' := 260) (by rfl) dX12_law_258 rfl ?_
                                    refine v_iadd (pc' := 261) (by omega) dX12_law_260 rfl ?_
                                    refine w_iald (pc' := 262) kd_177 (by omega) (by omega) dX12_law_261 rfl ?_
                                    show Wp _ _ _ _ _ _ [gI (NN (30 + j177)), gI ((5 * (σb 133 77)) + j177), gR 177]
                                    refine w_iast (pc' := 263) kd_177 (by omega) (by omega) dX12_law_262 rfl ?_
                                    refine Wp.heq (σ' := gUr (gUr (gUp (gUp (gUp σl 173 (σb 133 77) f) 174 (σb 133 77) (σb 133 3)) 175 (σb 133 77) (σl 175 6)) 176 WW) 177 (updI NN ((5 * (σb 133 77)) + j177) (NN (30 + j177)))) gUp_row ?_
                                    refine v_iinc (pc' := 266) (x := j177) (ls' := [gR 133, gI f, gI n, gI (σb 133 77), gI (j177 + 1)]) (by omega) (by decide) (by rfl) (by rfl) dX12_law_263 rfl ?_
                                    refine w_goto (pc' := 236) dX12_law_266 rfl ?_
                                    exact ih_236 _ (by omega) (j177 + 1) (updI NN ((5 * (σb 133 77)) + j177) (NN (30 + j177))) rfl (by omega) (by omega) (by rw [kr177, cpy_s (by omega) (cpy_hi (by omega))])
                              refine Wp.heq (σ' := gUr (gUr (gUp (gUp (gUp σl 173 (σb 133 77) f) 174 (σb 133 77) (σb 133 3)) 175 (σb 133 77) (σl 175 6)) 176 WW) 177 (σl 177)) (gUr_id (σ := gUr (gUp (gUp (gUp σl 173 (σb 133 77) f) 174 (σb 133 77) (σb 133 3)) 175 (σb 133 77) (σl 175 6)) 176 WW) (k := 177)).symm ?_
                              exact hl_236 _ 0 (σl 177) rfl (by omega) (by omega) (by exact cpy_0.symm)
                            · skip
                              refine w_aload_n (pc' := 206) (i := 0) (by rfl) (by rfl) dX12_law_205 rfl ?_
                              refine w_getS (pc' := 209) (q := 176) fg_X12_148 kd_133 sf_X12_67 gr_133_67 dX12_law_206 rfl ?_
                              refine w_bipush (pc' := 211) (by decide) (by decide) dX12_law_209 rfl ?_
                              refine w_iload_n (pc' := 212) (i := 3) (by rfl) (by rfl) dX12_law_211 rfl ?_
                              refine v_imul (pc' := 213) (by omega) dX12_law_212 rfl ?_
                              refine w_iload (pc' := 215) (by rfl) dX12_law_213 rfl ?_
                              refine v_iadd (pc' := 216) (by omega) dX12_law_215 rfl ?_
                              refine w_aload_n (pc' := 217) (i := 0) (by rfl) (by rfl) dX12_law_216 rfl ?_
                              refine w_getS (pc' := 220) (q := 176) fg_X12_148 kd_133 sf_X12_67 gr_133_67 dX12_law_217 rfl ?_
                              refine w_bipush (pc' := 222) (by decide) (by decide) dX12_law_220 rfl ?_
                              refine w_iload (pc' := 224) (by rfl) dX12_law_222 rfl ?_
                              refine v_iadd (pc' := 225) (by omega) dX12_law_224 rfl ?_
                              refine w_iald (pc' := 226) kd_176 (by omega) (by omega) dX12_law_225 rfl ?_
                              show Wp _ _ _ _ _ _ [gI (WW (48 + j176)), gI ((8 * (σb 133 77)) + j176), gR 176]
                              refine w_iast (pc' := 227) kd_176 (by omega) (by omega) dX12_law_226 rfl ?_
                              refine Wp.heq (σ' := gUr (gUp (gUp (gUp σl 173 (σb 133 77) f) 174 (σb 133 77) (σb 133 3)) 175 (σb 133 77) (σl 175 6)) 176 (updI WW ((8 * (σb 133 77)) + j176) (WW (48 + j176)))) gUp_row ?_
                              refine v_iinc (pc' := 230) (x := j176) (ls' := [gR 133, gI f, gI n, gI (σb 133 77), gI (j176 + 1)]) (by omega) (by decide) (by rfl) (by rfl) dX12_law_227 rfl ?_
                              refine w_goto (pc' := 198) dX12_law_230 rfl ?_
                              exact ih_198 _ (by omega) (j176 + 1) (updI WW ((8 * (σb 133 77)) + j176) (WW (48 + j176))) rfl (by omega) (by omega) (by rw [kr176, cpy_s (by omega) (cpy_hi (by omega))])
                        refine Wp.heq (σ' := gUr (gUp (gUp (gUp σl 173 (σb 133 77) f) 174 (σb 133 77) (σb 133 3)) 175 (σb 133 77) (σl 175 6)) 176 (σl 176)) (gUr_id (σ := gUp (gUp (gUp σl 173 (σb 133 77) f) 174 (σb 133 77) (σb 133 3)) 175 (σb 133 77) (σl 175 6)) (k := 176)).symm ?_
                        exact hl_198 _ 0 (σl 176) rfl (by omega) (by omega) (by exact cpy_0.symm)
                      · skip
                        refine w_aload_n (pc' := 137) (i := 0) (by rfl) (by rfl) dX12_law_136 rfl ?_
                        refine w_callV (pc' := 140) (d' := 7) (av := []) mi_mX12_readRule lk_X12_497 rfl ci_X12 kd_133 rfl (Nat.le_of_ble_eq_true rfl) (Nat.le_of_ble_eq_true rfl) dX12_law_137 rfl ((mr_readRule (σ := σl) I0 hC.1 hC.2.1 eb134.symm hLL.2 hC.2.2.1 hTl (fun e => by omega) hC.2.2.2.1 hC.2.2.2.2.1 hcb).mono (fun v τ h => bb_of h)) (fun v_137 σ137 q_137 => ?_)
                        obtain ⟨b137, rfl, hO_137⟩ := q_137
                        show Wp _ _ _ _ _ _ [gI b137]
                        refine w_if_ne (pc' := 143) (t := 150) dX12_law_140 rfl rfl (fun c_140 => ?_) (fun c_140 => ?_)
                        · skip
                          have hDN : RDN T L σb S0 Sl σ137 := by
                            rcases hO_137 with h | h
                            · exact h.2
                            · exact absurd h.1 (by omega)
                          obtain ⟨S9, g1, g2, g3, g4, g5, g6, g7, g8⟩ := hDN
                          have I9 : INVb L S9 := (g1.inv I0) (Classical.not_not.mp fun c => g2 (Or.inl c))
                          have hp9 : 0 ≤ S9 66 4 ∧ S9 66 4 ≤ L := I9.1.2.2.2
                          have e54_137 : σ137 133 54 = L := g4.2.1
                          have e134_137 : σ137 134 = T := (funext fun i => g4.1 134 i rfl).trans eb134
                          refine v_iinc (pc' := 153) (x := n) (ls' := [gR 133, gI f, gI (n + 1), gX 1, gX 1]) (by omega) (by decide) (by rfl) (by rfl) dX12_law_150 rfl ?_
                          refine w_aload_n (pc' := 154) (i := 0) (by rfl) (by rfl) dX12_law_153 rfl ?_
                          refine w_callV (pc' := 157) (d' := 1) (av := []) mi_mX12_go lk_X12_444 rfl ci_X12 kd_133 rfl (Nat.le_of_ble_eq_true rfl) (Nat.le_of_ble_eq_true rfl) dX12_law_154 rfl (mg_go (σ := σ137) (show σ137 133 54 ≤ 540 by omega) (show 0 ≤ σ137 133 55 ∧ σ137 133 55 ≤ σ137 133 54 by omega)) (fun v_154 σ154 q_154 => ?_)
                          obtain ⟨rfl, hk_154, ht_154⟩ := q_154
                          show Wp _ _ _ _ _ _ []
                          have hC9 : RCH T L S0 S9 ∧ ¬ FIN S9 ∧ S9 57 6 = 0 ∧ RLB L σb S9 σ154 False 0 ∧ σ154 175 6 = S9 68 3 ∧ MTK T L (S9 66 4) σ154 ∧ n + 1 = S9 68 2 := ⟨g1, g2, g3, g4.kg hk_154, by rw [hk_154.row (k := 175) (by decide)]; exact g5, ht_154.tr e134_137 e54_137 g6, by rw [g8]; omega⟩
                          refine w_goto (pc' := 129) dX12_law_157 rfl ?_
                          exact ih_129 _ (by omega) (n + 1) σ154 S9 rfl (by exact hC9)
                        · skip
                          have hBA : BADE T L σb S0 σ137 := by
                            rcases hO_137 with h | h
                            · exact absurd h.1 (by omega)
                            · exact h.2
                          obtain ⟨B, b1, b2, b3, b4, b5, b6⟩ := hBA
                          have hpl := RCH_pl I0 hB2.1 b1 b3 hLL
                          refine w_iconst (pc' := 144) (by decide) dX12_law_143 rfl ?_
                          refine w_aload_n (pc' := 145) (i := 0) (by rfl) (by rfl) dX12_law_144 rfl ?_
                          refine v_getI (pc' := 148) (ji := 61) rfl fg_X12_406 kd_133 dX12_law_145 rfl ?_
                          refine v_isub (pc' := 149) (by omega) dX12_law_148 rfl ?_
                          refine v_ireturn rfl dX12_law_149 ?_
                          rw [hb] at b6
                          exact ⟨B, b1, b2, Or.inl ⟨b3, by rw [b5], b4.symm, b6⟩⟩
                  exact hl_129 _ 0 σ126 S0 rfl (by exact hC126)
                · skip
                  refine w_aload_n (pc' := 98) (i := 0) (by rfl) (by rfl) dX12_law_97 rfl ?_
                  refine w_getS (pc' := 101) (q := 177) fg_X12_151 kd_133 sf_X12_68 gr_133_68 dX12_law_98 rfl ?_
                  refine w_bipush (pc' := 103) (by decide) (by decide) dX12_law_101 rfl ?_
                  refine w_iload_n (pc' := 104) (i := 2) (by rfl) (by rfl) dX12_law_103 rfl ?_
                  refine v_iadd (pc' := 105) (by omega) dX12_law_104 rfl ?_
                  refine w_aload_n (pc' := 106) (i := 0) (by rfl) (by rfl) dX12_law_105 rfl ?_
                  refine w_getS (pc' := 109) (q := 183) fg_X12_169 kd_133 sf_X12_74 gr_133_74 dX12_law_106 rfl ?_
                  refine w_iload_n (pc' := 110) (i := 2) (by rfl) (by rfl) dX12_law_109 rfl ?_
                  refine w_iald (pc' := 111) kd_183 (by omega) (by omega) dX12_law_110 rfl ?_
                  show Wp _ _ _ _ _ _ [gI (σ 183 i177), gI (30 + i177), gR 177]
                  refine w_iast (pc' := 112) kd_177 (by omega) (by omega) dX12_law_111 rfl ?_
                  refine Wp.heq (σ' := gUr (gUr (gUp (gUp (gUp (gUp (gUp (gUp (gUp (gUp σ 133 0 0) 133 54 (σ 133 2)) 133 2 0) 133 60 0) 133 62 0) 133 82 0) 133 83 0) 175 6 0) 178 F) 177 (updI N (30 + i177) (σ 183 i177))) gUp_row ?_
                  refine v_iinc (pc' := 115) (x := i177) (ls' := [gR 133, gI f, gI (i177 + 1), gX 1, gX 1]) (by omega) (by decide) (by rfl) (by rfl) dX12_law_112 rfl ?_
                  refine w_goto (pc' := 92) dX12_law_115 rfl ?_
                  exact ih_92 _ (by omega) (i177 + 1) (updI N (30 + i177) (σ 183 i177)) rfl (by omega) (by omega) (by rw [hr177, cpy_s (by omega) (by rw [Int.zero_add])])
            refine Wp.heq (σ' := gUr (gUr (gUp (gUp (gUp (gUp (gUp (gUp (gUp (gUp σ 133 0 0) 133 54 (σ 133 2)) 133 2 0) 133 60 0) 133 62 0) 133 82 0) 133 83 0) 175 6 0) 178 F) 177 (σ 177)) (gUr_id (σ := gUr (gUp (gUp (gUp (gUp (gUp (gUp (gUp (gUp σ 133 0 0) 133 54 (σ 133 2)) 133 2 0) 133 60 0) 133 62 0) 133 82 0) 133 83 0) 175 6 0) 178 F) (k := 177)).symm ?_
            exact hl_92 _ 0 (σ 177) rfl (by omega) (by omega) (by exact cpy_0.symm)
          · skip
            refine w_aload_n (pc' := 75) (i := 0) (by rfl) (by rfl) dX12_law_74 rfl ?_
            refine w_getS (pc' := 78) (q := 178) fg_X12_154 kd_133 sf_X12_69 gr_133_69 dX12_law_75 rfl ?_
            refine w_bipush (pc' := 80) (by decide) (by decide) dX12_law_78 rfl ?_
            refine w_iload_n (pc' := 81) (i := 2) (by rfl) (by rfl) dX12_law_80 rfl ?_
            refine v_iadd (pc' := 82) (by omega) dX12_law_81 rfl ?_
            refine w_iconst (pc' := 83) (by decide) dX12_law_82 rfl ?_
            refine w_iast (pc' := 84) kd_178 (by omega) (by omega) dX12_law_83 rfl ?_
            refine Wp.heq (σ' := gUr (gUp (gUp (gUp (gUp (gUp (gUp (gUp (gUp σ 133 0 0) 133 54 (σ 133 2)) 133 2 0) 133 60 0) 133 62 0) 133 82 0) 133 83 0) 175 6 0) 178 (updI F (60 + i178) (-1))) gUp_row ?_
            refine v_iinc (pc' := 87) (x := i178) (ls' := [gR 133, gI f, gI (i178 + 1), gX 1, gX 1]) (by omega) (by decide) (by rfl) (by rfl) dX12_law_84 rfl ?_
            refine w_goto (pc' := 68) dX12_law_87 rfl ?_
            exact ih_68 _ (by omega) (i178 + 1) (updI F (60 + i178) (-1)) rfl (by omega) (by omega) (by rw [hr178, pfl_s (by omega)])
      refine Wp.heq (σ' := gUr (gUp (gUp (gUp (gUp (gUp (gUp (gUp (gUp σ 133 0 0) 133 54 (σ 133 2)) 133 2 0) 133 60 0) 133 62 0) 133 82 0) 133 83 0) 175 6 0) 178 (σ 178)) (gUr_id (σ := gUp (gUp (gUp (gUp (gUp (gUp (gUp (gUp σ 133 0 0) 133 54 (σ 133 2)) 133 2 0) 133 60 0) 133 62 0) 133 82 0) 133 83 0) 175 6 0) (k := 178)).symm ?_
      exact hl_68 _ 0 (σ 178) rfl (by omega) (by omega) (by exact pfl_0.symm)
    · skip
      refine w_sipush (pc' := 37) (by decide) (by decide) dX12_law_34 rfl ?_
      refine v_ireturn rfl dX12_law_37 ?_
      exfalso; omega
