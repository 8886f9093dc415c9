/-! who sits: the reference, the calls (gen/mod_sit5.py) -/
theorem post_ev {σ : gH} (hI : Inv σ) {k : Int} (h0 : 0 ≤ k) (h1 : k < σ 34 6) : (σ 39 k = -1 ∧ ev (σ 39 k) = 2147483647) ∨ (0 ≤ σ 39 k ∧ σ 39 k ≤ 9999 ∧ ev (σ 39 k) = σ 39 k) := by
  have r := (hI.f.post.2.2.2 k h0 h1).2.2.2.2.2
  unfold ev
  by_cases e : σ 39 k = -1
  · rw [if_pos e]; exact Or.inl ⟨e, rfl⟩
  · rw [if_neg e]
    refine Or.inr ?_
    unfold okSpan isDy at r
    have r2 := r.2.2.1.2
    omega
set_option maxHeartbeats 4000000 in
theorem q_sitsOf {σ0 σ : gH} (hI : Inv σ0) (hq : QM σ0 σ) (m p t : Int) (hm0 : 0 ≤ m ∧ m < σ0 125 5) (hP : 0 ≤ p ∧ p < σ0 3 2) {l : Int} (hl : LI σ0 (σ0 128 m) t = l) : Mt mX12_sitsOf 4 [gR 133, gI m, gI p, gI t] σ (fun v σ' => v = gI (DUTY σ0 p (σ0 127 m) (σ0 128 m) t l) ∧ QM σ0 σ') := by
  refine Mt.walk (ls := [gR 133, gI m, gI p, gI t, gX 1, gX 1, gX 1, gX 1, gX 1, gX 1]) pn_X12 rfl (fun _ _ h => by cases h.1) (Nat.le_of_ble_eq_true rfl) rfl ?_
  have hp := hI.f.hp
  have hp0 := hI.f.party.2.1
  have hs0 := hI.f.post.2.1
  have hs1 := hI.f.post.2.2.1
  have hmt := hI.f.mat.2.2.1
  have hmr := mat_row hI hm0.1 hm0.2
  have hL := LI_law hI (σ0 128 m) t
  rw [hl] at hL
  have hl6 := LI_in hI (σ0 128 m) t
  rw [hl] at hl6
  have hnum := hL.num
  have hhd := HD_in (A := AR σ0 (σ0 128 m) t) (n := σ0 3 2) (fun g f h => AR_out hI (by omega)) hmr.1.1 hmr.1.2
  have hps : σ0 4 (σ0 127 m) = 0 → HD (AR σ0 (σ0 128 m) t) (σ0 127 m) = (σ0 127 m) := fun h => HD_none (fun c => AR_person hI h)
  refine w_aload_n (pc' := 1) (i := 0) (by rfl) (by rfl) dX12_sitsOf_0 rfl ?_
  refine w_getS (pc' := 4) (q := 190) fg_X12_190 kd_133 sf_X12_90 gr_133_90 dX12_sitsOf_1 rfl ?_
  refine w_iload_n (pc' := 5) (i := 1) (by rfl) (by rfl) dX12_sitsOf_4 rfl ?_
  refine w_iald (pc' := 6) kd_190 (by (first | omega | (have := hrow (by omega); omega) | (have := hrow (by omega); have := hsp () (by omega); omega))) (by (first | omega | (have := hrow (by omega); omega) | (have := hrow (by omega); have := hsp () (by omega); omega))) dX12_sitsOf_5 rfl ?_
  rw [(hq).rd (k := 190) (i := m) (.inr rfl)]
  rw [hI.e190 (i := m) (by (first | omega | (have := hrow (by omega); omega) | (have := hrow (by omega); have := hsp () (by omega); omega))) (by (first | omega | (have := hrow (by omega); omega) | (have := hrow (by omega); have := hsp () (by omega); omega)))]
  refine w_istore (pc' := 8) (ls' := [gR 133, gI m, gI p, gI t, gI (σ0 127 m), gX 1, gX 1, gX 1, gX 1, gX 1]) (by decide) (by rfl) dX12_sitsOf_6 rfl ?_
  refine w_aload_n (pc' := 9) (i := 0) (by rfl) (by rfl) dX12_sitsOf_8 rfl ?_
  refine w_getS (pc' := 12) (q := 191) fg_X12_193 kd_133 sf_X12_91 gr_133_91 dX12_sitsOf_9 rfl ?_
  refine w_iload_n (pc' := 13) (i := 1) (by rfl) (by rfl) dX12_sitsOf_12 rfl ?_
  refine w_iald (pc' := 14) kd_191 (by (first | omega | (have := hrow (by omega); omega) | (have := hrow (by omega); have := hsp () (by omega); omega))) (by (first | omega | (have := hrow (by omega); omega) | (have := hrow (by omega); have := hsp () (by omega); omega))) dX12_sitsOf_13 rfl ?_
  rw [(hq).rd (k := 191) (i := m) (.inr rfl)]
  rw [hI.e191 (i := m) (by (first | omega | (have := hrow (by omega); omega) | (have := hrow (by omega); have := hsp () (by omega); omega))) (by (first | omega | (have := hrow (by omega); omega) | (have := hrow (by omega); have := hsp () (by omega); omega)))]
  refine w_istore (pc' := 16) (ls' := [gR 133, gI m, gI p, gI t, gI (σ0 127 m), gI (σ0 128 m), gX 1, gX 1, gX 1, gX 1]) (by decide) (by rfl) dX12_sitsOf_14 rfl ?_
  refine w_aload_n (pc' := 17) (i := 0) (by rfl) (by rfl) dX12_sitsOf_16 rfl ?_
  refine w_iload (pc' := 19) (by rfl) dX12_sitsOf_17 rfl ?_
  refine w_iload_n (pc' := 20) (i := 3) (by rfl) (by rfl) dX12_sitsOf_19 rfl ?_
  refine v_callVE (pc' := 23) (st' := [gI l]) (d' := 0) (av := [gI (σ0 128 m), gI t]) mi_mX12_lawFor lk_X12_512 rfl ci_X12 kd_133 rfl (Nat.le_of_ble_eq_true rfl) (Nat.le_of_ble_eq_true rfl) dX12_sitsOf_20 rfl rfl (by have k := q_lawFor hI hq (σ0 128 m) t; rw [hl] at k; exact k) ?_
  refine w_istore (pc' := 25) (ls' := [gR 133, gI m, gI p, gI t, gI (σ0 127 m), gI (σ0 128 m), gI l, gX 1, gX 1, gX 1]) (by decide) (by rfl) dX12_sitsOf_23 rfl ?_
  refine w_aload_n (pc' := 26) (i := 0) (by rfl) (by rfl) dX12_sitsOf_25 rfl ?_
  refine w_iload (pc' := 28) (by rfl) dX12_sitsOf_26 rfl ?_
  refine w_iload_n (pc' := 29) (i := 2) (by rfl) (by rfl) dX12_sitsOf_28 rfl ?_
  refine w_iload (pc' := 31) (by rfl) dX12_sitsOf_29 rfl ?_
  refine w_iload (pc' := 33) (by rfl) dX12_sitsOf_31 rfl ?_
  refine w_iload_n (pc' := 34) (i := 3) (by rfl) (by rfl) dX12_sitsOf_33 rfl ?_
  refine w_callV (pc' := 37) (d' := 3) (av := [gI l, gI p, gI (σ0 127 m), gI (σ0 128 m), gI t]) mi_mX12_gather lk_X12_515 rfl ci_X12 kd_133 rfl (Nat.le_of_ble_eq_true rfl) (Nat.le_of_ble_eq_true rfl) dX12_sitsOf_34 rfl (q_gather hI hq hL p (σ0 127 m) (σ0 128 m) t (by omega) (by omega) (by omega)) (fun v_34 σ_34 q_34 => ?_)
  obtain ⟨rfl, σ34, D34, hq_34, hk_34, hw_34, hD_34, rfl⟩ := q_34
  show Wp _ _ _ _ _ _ []
  refine w_aload_n (pc' := 38) (i := 0) (by rfl) (by rfl) dX12_sitsOf_37 rfl ?_
  refine w_iload (pc' := 40) (by rfl) dX12_sitsOf_38 rfl ?_
  refine w_iconst (pc' := 41) (by decide) dX12_sitsOf_40 rfl ?_
  refine v_callVE (pc' := 44) (st' := [gI (NU σ0 l 0)]) (d' := 0) (av := [gI l, gI 0]) mi_mX12_numberOf lk_X12_503 rfl ci_X12 kd_133 rfl (Nat.le_of_ble_eq_true rfl) (Nat.le_of_ble_eq_true rfl) dX12_sitsOf_41 rfl rfl (q_numberOf hI ((lm_up (k := 187) (i := 10) (v := (CNTV σ0 p (σ0 127 m) (σ0 128 m) t l)) (lm_nfC 187 (by decide) _)).trans ((lm_up (k := 187) (i := 9) (v := (SUMV σ0 p (σ0 127 m) (σ0 128 m) t l)) (lm_nfC 187 (by decide) _)).trans ((lm_ur (k := 172) (f := D34) (lm_nfC 172 (by decide))).trans hq_34.1))) l 0 (by omega) (by omega)) ?_
  refine w_istore (pc' := 46) (ls' := [gR 133, gI m, gI p, gI t, gI (σ0 127 m), gI (σ0 128 m), gI l, gI (NU σ0 l 0), gX 1, gX 1]) (by decide) (by rfl) dX12_sitsOf_44 rfl ?_
  refine w_aload_n (pc' := 47) (i := 0) (by rfl) (by rfl) dX12_sitsOf_46 rfl ?_
  refine w_getS (pc' := 50) (q := 169) fg_X12_121 kd_133 sf_X12_45 gr_133_45 dX12_sitsOf_47 rfl ?_
  refine w_iload (pc' := 52) (by rfl) dX12_sitsOf_50 rfl ?_
  refine w_iald (pc' := 53) kd_169 (by (first | omega | (have := hrow (by omega); omega) | (have := hrow (by omega); have := hsp () (by omega); omega))) (by (first | omega | (have := hrow (by omega); omega) | (have := hrow (by omega); have := hsp () (by omega); omega))) dX12_sitsOf_52 rfl ?_
  show Wp _ _ _ _ _ _ [gI (σ34 169 (σ0 127 m))]
  refine w_istore (pc' := 55) (ls' := [gR 133, gI m, gI p, gI t, gI (σ0 127 m), gI (σ0 128 m), gI l, gI (NU σ0 l 0), gI (σ34 169 (σ0 127 m)), gX 1]) (by decide) (by rfl) dX12_sitsOf_53 rfl ?_
  have eh0 : σ34 169 (σ0 127 m) = HD (AR σ0 (σ0 128 m) t) (σ0 127 m) := hw_34.2 _ (by omega) (by omega)
  have ed0 : D34 (σ0 127 m) = DG σ0 p (σ0 128 m) t (σ0 127 m) := hD_34 _ (by omega) (by omega)
  have ed1 : D34 (σ34 169 (σ0 127 m)) = DG σ0 p (σ0 128 m) t (HD (AR σ0 (σ0 128 m) t) (σ0 127 m)) := by rw [eh0]; exact hD_34 _ (by omega) (by omega)
  have ed4 : σ0 4 (σ34 169 (σ0 127 m)) = σ0 4 (HD (AR σ0 (σ0 128 m) t) (σ0 127 m)) := by rw [eh0]
  have ed5 : σ0 4 (σ0 127 m) = 0 → DG σ0 p (σ0 128 m) t (HD (AR σ0 (σ0 128 m) t) (σ0 127 m)) = DG σ0 p (σ0 128 m) t (σ0 127 m) ∧ σ0 4 (HD (AR σ0 (σ0 128 m) t) (σ0 127 m)) = 0 := fun h => by rw [hps h]; exact ⟨rfl, h⟩
  refine w_aload_n (pc' := 56) (i := 0) (by rfl) (by rfl) dX12_sitsOf_55 rfl ?_
  refine w_getS (pc' := 59) (q := 187) fg_X12_181 kd_133 sf_X12_85 gr_133_85 dX12_sitsOf_56 rfl ?_
  refine w_iconst (pc' := 60) (by decide) dX12_sitsOf_59 rfl ?_
  have hj_109 : Wp mX12_sitsOf 4 (fun v σ' => v = gI (DUTY σ0 p (σ0 127 m) (σ0 128 m) t l) ∧ QM σ0 σ') (gUp (gUp (gUr σ34 172 D34) 187 9 (SUMV σ0 p (σ0 127 m) (σ0 128 m) t l)) 187 10 (CNTV σ0 p (σ0 127 m) (σ0 128 m) t l)) 109 [gR 133, gI m, gI p, gI t, gI (σ0 127 m), gI (σ0 128 m), gI l, gI (NU σ0 l 0), gI (σ34 169 (σ0 127 m)), gX 1] [gI (gb (knP σ0 p (σ0 127 m) (σ0 128 m) t l)), gI 5, gR 187] := by
    refine w_iast (pc' := 110) kd_187 (by (first | omega | (have := hrow (by omega); omega) | (have := hrow (by omega); have := hsp () (by omega); omega))) (by (first | omega | (have := hrow (by omega); omega) | (have := hrow (by omega); have := hsp () (by omega); omega))) dX12_sitsOf_109 rfl ?_
    refine w_aload_n (pc' := 111) (i := 0) (by rfl) (by rfl) dX12_sitsOf_110 rfl ?_
    refine w_getS (pc' := 114) (q := 187) fg_X12_181 kd_133 sf_X12_85 gr_133_85 dX12_sitsOf_111 rfl ?_
    refine w_bipush (pc' := 116) (by decide) (by decide) dX12_sitsOf_114 rfl ?_
    refine w_iconst (pc' := 117) (by decide) dX12_sitsOf_116 rfl ?_
    refine w_iast (pc' := 118) kd_187 (by (first | omega | (have := hrow (by omega); omega) | (have := hrow (by omega); have := hsp () (by omega); omega))) (by (first | omega | (have := hrow (by omega); omega) | (have := hrow (by omega); have := hsp () (by omega); omega))) dX12_sitsOf_117 rfl ?_
    refine w_iconst (pc' := 119) (by decide) dX12_sitsOf_118 rfl ?_
    refine w_istore (pc' := 121) (ls' := [gR 133, gI m, gI p, gI t, gI (σ0 127 m), gI (σ0 128 m), gI l, gI (NU σ0 l 0), gI (σ34 169 (σ0 127 m)), gI 0]) (by decide) (by rfl) dX12_sitsOf_119 rfl ?_
    have hl_121 : ∀ (mm : Nat) (k b : Int), (σ0 34 6 - k).toNat = mm → (0 ≤ k) → (k ≤ σ0 34 6) → (b = gb (fstI (poP σ0 p (HD (AR σ0 (σ0 128 m) t) (σ0 127 m)) (σ0 128 m) t (NU σ0 l 2)) k.toNat ≠ -1)) → Wp mX12_sitsOf 4 (fun v σ' => v = gI (DUTY σ0 p (σ0 127 m) (σ0 128 m) t l) ∧ QM σ0 σ') (gUp (gUp (gUp (gUp (gUr σ34 172 D34) 187 9 (SUMV σ0 p (σ0 127 m) (σ0 128 m) t l)) 187 10 (CNTV σ0 p (σ0 127 m) (σ0 128 m) t l)) 187 5 (gb (knP σ0 p (σ0 127 m) (σ0 128 m) t l))) 187 11 b) 121 [gR 133, gI m, gI p, gI t, gI (σ0 127 m), gI (σ0 128 m), gI l, gI (NU σ0 l 0), gI (σ34 169 (σ0 127 m)), gI k] [] := by
      intro m_121
      induction m_121 using Nat.strongRecOn with
      | _ m_121 ih_121 =>
        intro k b hmeas_121 k0 k1 hb
        have hrow := fun h : k < σ0 34 6 => post_row hI k0 h
        have es := fstI_s (P := poP σ0 p (HD (AR σ0 (σ0 128 m) t) (σ0 127 m)) (σ0 128 m) t (NU σ0 l 2)) k0
        have eh : k < σ0 34 6 → σ34 169 (σ0 36 k) = HD (AR σ0 (σ0 128 m) t) (σ0 36 k) := fun h => hw_34.2 _ (by have := hrow h; omega) (by have := hrow h; omega)
        have hsp : ∀ _ : Unit, k < σ0 34 6 → (σ0 39 k = -1 ∧ ev (σ0 39 k) = 2147483647) ∨ (0 ≤ σ0 39 k ∧ σ0 39 k ≤ 9999 ∧ ev (σ0 39 k) = σ0 39 k) := fun _ h => post_ev hI k0 h
        have fi := fstI_in (P := poP σ0 p (HD (AR σ0 (σ0 128 m) t) (σ0 127 m)) (σ0 128 m) t (NU σ0 l 2)) k.toNat
        refine w_iload (pc' := 123) (by rfl) dX12_sitsOf_121 rfl ?_
        refine w_aload_n (pc' := 124) (i := 0) (by rfl) (by rfl) dX12_sitsOf_123 rfl ?_
        refine v_getI (pc' := 127) (ji := 26) rfl fg_X12_305 kd_133 dX12_sitsOf_124 rfl ?_
        show Wp _ _ _ _ _ _ [gI (σ34 133 26), gI k]
        rw [(hq_34).rd (k := 133) (i := 26) (.inr rfl)]
        rw [hI.f26]
        refine w_icmp_ge (pc' := 130) (t := 230) dX12_sitsOf_127 rfl rfl (fun c_127 => ?_) (fun c_127 => ?_)
        · skip
          refine Wp.heq (σ' := gUp (gUp (gUp (gUp (gUr σ34 172 D34) 187 9 (SUMV σ0 p (σ0 127 m) (σ0 128 m) t l)) 187 10 (CNTV σ0 p (σ0 127 m) (σ0 128 m) t l)) 187 5 (gb (knP σ0 p (σ0 127 m) (σ0 128 m) t l))) 187 11 (gb (POS σ0 p (HD (AR σ0 (σ0 128 m) t) (σ0 127 m)) (σ0 128 m) t (NU σ0 l 2) ≠ -1))) (by rw [hb, show k = σ0 34 6 by omega]; rfl) ?_
          refine w_aload_n (pc' := 231) (i := 0) (by rfl) (by rfl) dX12_sitsOf_230 rfl ?_
          refine w_getS (pc' := 234) (q := 187) fg_X12_181 kd_133 sf_X12_85 gr_133_85 dX12_sitsOf_231 rfl ?_
          refine w_bipush (pc' := 236) (by decide) (by decide) dX12_sitsOf_234 rfl ?_
          refine w_aload_n (pc' := 237) (i := 0) (by rfl) (by rfl) dX12_sitsOf_236 rfl ?_
          refine w_iload_n (pc' := 238) (i := 2) (by rfl) (by rfl) dX12_sitsOf_237 rfl ?_
          refine w_iload (pc' := 240) (by rfl) dX12_sitsOf_238 rfl ?_
          refine v_callVE (pc' := 243) (st' := [gI (SHR σ0 p (σ0 127 m) (σ0 128 m) t), gI 12, gR 187]) (d' := 2) (av := [gI p, gI (σ0 127 m)]) mi_mX12_shareOf lk_X12_552 rfl ci_X12 kd_133 rfl (Nat.le_of_ble_eq_true rfl) (Nat.le_of_ble_eq_true rfl) dX12_sitsOf_240 rfl rfl (q_shareOf (σ := gUp (gUp (gUp (gUp (gUr σ34 172 D34) 187 9 (SUMV σ0 p (σ0 127 m) (σ0 128 m) t l)) 187 10 (CNTV σ0 p (σ0 127 m) (σ0 128 m) t l)) 187 5 (gb (knP σ0 p (σ0 127 m) (σ0 128 m) t l))) 187 11 (gb (POS σ0 p (HD (AR σ0 (σ0 128 m) t) (σ0 127 m)) (σ0 128 m) t (NU σ0 l 2) ≠ -1))) (A := AR σ0 (σ0 128 m) t) (n := σ0 3 2) (fun x f a b c e => (hw_34.1 x f a b c e).1) (fun c f => AR_in hI (σ0 128 m) t c f) ((hq_34.rd (.inr rfl)).trans hI.f6) (by omega) (by omega) (fun g f h => AR_out hI (by omega)) (fun y => AR_out hI (by omega)) p (σ0 127 m) ⟨by omega, by omega⟩ ⟨by omega, by omega⟩) ?_
          refine w_iast (pc' := 244) kd_187 (by (first | omega | (have := hrow (by omega); omega) | (have := hrow (by omega); have := hsp () (by omega); omega))) (by (first | omega | (have := hrow (by omega); omega) | (have := hrow (by omega); have := hsp () (by omega); omega))) dX12_sitsOf_243 rfl ?_
          refine w_aload_n (pc' := 245) (i := 0) (by rfl) (by rfl) dX12_sitsOf_244 rfl ?_
          refine w_getS (pc' := 248) (q := 187) fg_X12_181 kd_133 sf_X12_85 gr_133_85 dX12_sitsOf_245 rfl ?_
          refine w_bipush (pc' := 250) (by decide) (by decide) dX12_sitsOf_248 rfl ?_
          refine w_iconst (pc' := 251) (by decide) dX12_sitsOf_250 rfl ?_
          refine w_iast (pc' := 252) kd_187 (by (first | omega | (have := hrow (by omega); omega) | (have := hrow (by omega); have := hsp () (by omega); omega))) (by (first | omega | (have := hrow (by omega); omega) | (have := hrow (by omega); have := hsp () (by omega); omega))) dX12_sitsOf_251 rfl ?_
          refine w_iconst (pc' := 253) (by decide) dX12_sitsOf_252 rfl ?_
          refine w_istore (pc' := 255) (ls' := [gR 133, gI m, gI p, gI t, gI (σ0 127 m), gI (σ0 128 m), gI l, gI (NU σ0 l 0), gI (σ34 169 (σ0 127 m)), gI 0]) (by decide) (by rfl) dX12_sitsOf_253 rfl ?_
          have hl_255 : ∀ (mm : Nat) (q v : Int), (σ0 3 2 - q).toNat = mm → (0 ≤ q) → (q ≤ σ0 3 2) → (v = gkI σ0 p (σ0 127 m) (σ0 128 m) t (NU σ0 l 0) q.toNat) → Wp mX12_sitsOf 4 (fun v σ' => v = gI (DUTY σ0 p (σ0 127 m) (σ0 128 m) t l) ∧ QM σ0 σ') (gUp (gUp (gUp (gUp (gUp (gUp (gUr σ34 172 D34) 187 9 (SUMV σ0 p (σ0 127 m) (σ0 128 m) t l)) 187 10 (CNTV σ0 p (σ0 127 m) (σ0 128 m) t l)) 187 5 (gb (knP σ0 p (σ0 127 m) (σ0 128 m) t l))) 187 11 (gb (POS σ0 p (HD (AR σ0 (σ0 128 m) t) (σ0 127 m)) (σ0 128 m) t (NU σ0 l 2) ≠ -1))) 187 12 (SHR σ0 p (σ0 127 m) (σ0 128 m) t)) 187 13 v) 255 [gR 133, gI m, gI p, gI t, gI (σ0 127 m), gI (σ0 128 m), gI l, gI (NU σ0 l 0), gI (σ34 169 (σ0 127 m)), gI q] [] := by
            intro m_255
            induction m_255 using Nat.strongRecOn with
            | _ m_255 ih_255 =>
              intro q v hmeas_255 q0 q1 hv
              have es := gkI_s (σ := σ0) (p := p) (f := (σ0 127 m)) (d := (σ0 128 m)) (t := t) (y := NU σ0 l 0) q0
              have edg : q < 60 → D34 q = DG σ0 p (σ0 128 m) t q := fun h => hD_34 q q0 h
              refine w_iload (pc' := 257) (by rfl) dX12_sitsOf_255 rfl ?_
              refine w_aload_n (pc' := 258) (i := 0) (by rfl) (by rfl) dX12_sitsOf_257 rfl ?_
              refine v_getI (pc' := 261) (ji := 6) rfl fg_X12_273 kd_133 dX12_sitsOf_258 rfl ?_
              show Wp _ _ _ _ _ _ [gI (σ34 133 6), gI q]
              rw [(hq_34).rd (k := 133) (i := 6) (.inr rfl)]
              rw [hI.f6]
              refine w_icmp_ge (pc' := 264) (t := 331) dX12_sitsOf_261 rfl rfl (fun c_261 => ?_) (fun c_261 => ?_)
              · skip
                have hvv : ∀ r : Int, 8 ≤ r → ∀ mm, isAtm r mm → (gUp (gUp (gUp (gUp (gUp (gUp (gUr σ34 172 D34) 187 9 (SUMV σ0 p (σ0 127 m) (σ0 128 m) t l)) 187 10 (CNTV σ0 p (σ0 127 m) (σ0 128 m) t l)) 187 5 (gb (knP σ0 p (σ0 127 m) (σ0 128 m) t l))) 187 11 (gb (POS σ0 p (HD (AR σ0 (σ0 128 m) t) (σ0 127 m)) (σ0 128 m) t (NU σ0 l 2) ≠ -1))) 187 12 (SHR σ0 p (σ0 127 m) (σ0 128 m) t)) 187 13 (gkI σ0 p (σ0 127 m) (σ0 128 m) t (NU σ0 l 0) (σ0 3 2).toNat)) 187 (rnM mm) = FS σ0 p (σ0 127 m) (σ0 128 m) t l (rnM mm) := by
                  intro r hr mm hm
                  unfold isAtm at hm
                  rw [if_neg (show ¬ r < 8 by omega)] at hm
                  rcases (show mm = 8 ∨ mm = 9 ∨ mm = 10 ∨ mm = 11 ∨ mm = 12 ∨ mm = 13 by omega) with rfl | rfl | rfl | rfl | rfl | rfl <;> rfl
                refine Wp.heq (σ' := gUp (gUp (gUp (gUp (gUp (gUp (gUr σ34 172 D34) 187 9 (SUMV σ0 p (σ0 127 m) (σ0 128 m) t l)) 187 10 (CNTV σ0 p (σ0 127 m) (σ0 128 m) t l)) 187 5 (gb (knP σ0 p (σ0 127 m) (σ0 128 m) t l))) 187 11 (gb (POS σ0 p (HD (AR σ0 (σ0 128 m) t) (σ0 127 m)) (σ0 128 m) t (NU σ0 l 2) ≠ -1))) 187 12 (SHR σ0 p (σ0 127 m) (σ0 128 m) t)) 187 13 (gkI σ0 p (σ0 127 m) (σ0 128 m) t (NU σ0 l 0) (σ0 3 2).toNat)) (by rw [hv, show q = σ0 3 2 by omega]) ?_
                refine w_aload_n (pc' := 332) (i := 0) (by rfl) (by rfl) dX12_sitsOf_331 rfl ?_
                refine w_iload (pc' := 334) (by rfl) dX12_sitsOf_332 rfl ?_
                refine w_bipush (pc' := 336) (by decide) (by decide) dX12_sitsOf_334 rfl ?_
                refine w_callV (pc' := 339) (d' := 2) (av := [gI l, gI 8]) mi_mX12_holds lk_X12_528 rfl ci_X12 kd_133 rfl (Nat.le_of_ble_eq_true rfl) (Nat.le_of_ble_eq_true rfl) dX12_sitsOf_336 rfl (q_holds hI (QM.up (k := 187) (i := 13) (v := (gkI σ0 p (σ0 127 m) (σ0 128 m) t (NU σ0 l 0) (σ0 3 2).toNat)) (QM.up (k := 187) (i := 12) (v := (SHR σ0 p (σ0 127 m) (σ0 128 m) t)) (QM.up (k := 187) (i := 11) (v := (gb (POS σ0 p (HD (AR σ0 (σ0 128 m) t) (σ0 127 m)) (σ0 128 m) t (NU σ0 l 2) ≠ -1))) (QM.up (k := 187) (i := 5) (v := (gb (knP σ0 p (σ0 127 m) (σ0 128 m) t l))) (QM.up (k := 187) (i := 10) (v := (CNTV σ0 p (σ0 127 m) (σ0 128 m) t l)) (QM.up (k := 187) (i := 9) (v := (SUMV σ0 p (σ0 127 m) (σ0 128 m) t l)) (QM.ur (k := 172) (f := D34) hq_34 (lm_nfC 172 (by decide)) (fun h => h)) (lm_nfC 187 (by decide) _) (fun h => h)) (lm_nfC 187 (by decide) _) (fun h => h)) (lm_nfC 187 (by decide) _) (fun h => h)) (lm_nfC 187 (by decide) _) (fun h => h)) (lm_nfC 187 (by decide) _) (fun h => h)) (lm_nfC 187 (by decide) _) (fun h => h)) hL 8 ⟨by omega, by omega⟩) (fun v_336 σ_336 q_336 => ?_)
                obtain ⟨rfl, V336, rfl⟩ := q_336
                refine Wp.heq (σ' := gUr (gUp (gUp (gUp (gUp (gUp (gUp (gUr σ34 172 D34) 187 9 (SUMV σ0 p (σ0 127 m) (σ0 128 m) t l)) 187 10 (CNTV σ0 p (σ0 127 m) (σ0 128 m) t l)) 187 5 (gb (knP σ0 p (σ0 127 m) (σ0 128 m) t l))) 187 11 (gb (POS σ0 p (HD (AR σ0 (σ0 128 m) t) (σ0 127 m)) (σ0 128 m) t (NU σ0 l 2) ≠ -1))) 187 12 (SHR σ0 p (σ0 127 m) (σ0 128 m) t)) 187 13 (gkI σ0 p (σ0 127 m) (σ0 128 m) t (NU σ0 l 0) (σ0 3 2).toNat)) 188 V336) rfl ?_
                show Wp _ _ _ _ _ _ [gI (gb (HM σ0 l 8 ((gUp (gUp (gUp (gUp (gUp (gUp (gUr σ34 172 D34) 187 9 (SUMV σ0 p (σ0 127 m) (σ0 128 m) t l)) 187 10 (CNTV σ0 p (σ0 127 m) (σ0 128 m) t l)) 187 5 (gb (knP σ0 p (σ0 127 m) (σ0 128 m) t l))) 187 11 (gb (POS σ0 p (HD (AR σ0 (σ0 128 m) t) (σ0 127 m)) (σ0 128 m) t (NU σ0 l 2) ≠ -1))) 187 12 (SHR σ0 p (σ0 127 m) (σ0 128 m) t)) 187 13 (gkI σ0 p (σ0 127 m) (σ0 128 m) t (NU σ0 l 0) (σ0 3 2).toNat)) 187) ≠ 0))]
                refine Wp.stI (y := gb (HM σ0 l 8 (FS σ0 p (σ0 127 m) (σ0 128 m) t l) ≠ 0)) (gb_congr (Iff.of_eq (congrArg (fun x => x ≠ 0) (HM_congr hL (by omega) (by omega) (fun mm a _ => hvv 8 (by omega) mm a))))) ?_
                show Wp _ _ _ _ _ _ [gI (gb (HM σ0 l 8 (FS σ0 p (σ0 127 m) (σ0 128 m) t l) ≠ 0))]
                refine v_if_eqB (pc' := 342) (t := 346) dX12_sitsOf_339 rfl rfl (fun c_339 => ?_) (fun c_339 => ?_)
                · skip
                  refine w_aload_n (pc' := 347) (i := 0) (by rfl) (by rfl) dX12_sitsOf_346 rfl ?_
                  refine w_iload (pc' := 349) (by rfl) dX12_sitsOf_347 rfl ?_
                  refine w_bipush (pc' := 351) (by decide) (by decide) dX12_sitsOf_349 rfl ?_
                  refine w_callV (pc' := 354) (d' := 2) (av := [gI l, gI 9]) mi_mX12_holds lk_X12_528 rfl ci_X12 kd_133 rfl (Nat.le_of_ble_eq_true rfl) (Nat.le_of_ble_eq_true rfl) dX12_sitsOf_351 rfl (q_holds hI (QM.ur (k := 188) (f := V336) (QM.up (k := 187) (i := 13) (v := (gkI σ0 p (σ0 127 m) (σ0 128 m) t (NU σ0 l 0) (σ0 3 2).toNat)) (QM.up (k := 187) (i := 12) (v := (SHR σ0 p (σ0 127 m) (σ0 128 m) t)) (QM.up (k := 187) (i := 11) (v := (gb (POS σ0 p (HD (AR σ0 (σ0 128 m) t) (σ0 127 m)) (σ0 128 m) t (NU σ0 l 2) ≠ -1))) (QM.up (k := 187) (i := 5) (v := (gb (knP σ0 p (σ0 127 m) (σ0 128 m) t l))) (QM.up (k := 187) (i := 10) (v := (CNTV σ0 p (σ0 127 m) (σ0 128 m) t l)) (QM.up (k := 187) (i := 9) (v := (SUMV σ0 p (σ0 127 m) (σ0 128 m) t l)) (QM.ur (k := 172) (f := D34) hq_34 (lm_nfC 172 (by decide)) (fun h => h)) (lm_nfC 187 (by decide) _) (fun h => h)) (lm_nfC 187 (by decide) _) (fun h => h)) (lm_nfC 187 (by decide) _) (fun h => h)) (lm_nfC 187 (by decide) _) (fun h => h)) (lm_nfC 187 (by decide) _) (fun h => h)) (lm_nfC 187 (by decide) _) (fun h => h)) (lm_nfC 188 (by decide)) (fun h => h)) hL 9 ⟨by omega, by omega⟩) (fun v_351 σ_351 q_351 => ?_)
                  obtain ⟨rfl, V351, rfl⟩ := q_351
                  refine Wp.heq (σ' := gUr (gUp (gUp (gUp (gUp (gUp (gUp (gUr σ34 172 D34) 187 9 (SUMV σ0 p (σ0 127 m) (σ0 128 m) t l)) 187 10 (CNTV σ0 p (σ0 127 m) (σ0 128 m) t l)) 187 5 (gb (knP σ0 p (σ0 127 m) (σ0 128 m) t l))) 187 11 (gb (POS σ0 p (HD (AR σ0 (σ0 128 m) t) (σ0 127 m)) (σ0 128 m) t (NU σ0 l 2) ≠ -1))) 187 12 (SHR σ0 p (σ0 127 m) (σ0 128 m) t)) 187 13 (gkI σ0 p (σ0 127 m) (σ0 128 m) t (NU σ0 l 0) (σ0 3 2).toNat)) 188 V351) gUr_same ?_
                  show Wp _ _ _ _ _ _ [gI (gb (HM σ0 l 9 ((gUr (gUp (gUp (gUp (gUp (gUp (gUp (gUr σ34 172 D34) 187 9 (SUMV σ0 p (σ0 127 m) (σ0 128 m) t l)) 187 10 (CNTV σ0 p (σ0 127 m) (σ0 128 m) t l)) 187 5 (gb (knP σ0 p (σ0 127 m) (σ0 128 m) t l))) 187 11 (gb (POS σ0 p (HD (AR σ0 (σ0 128 m) t) (σ0 127 m)) (σ0 128 m) t (NU σ0 l 2) ≠ -1))) 187 12 (SHR σ0 p (σ0 127 m) (σ0 128 m) t)) 187 13 (gkI σ0 p (σ0 127 m) (σ0 128 m) t (NU σ0 l 0) (σ0 3 2).toNat)) 188 V336) 187) ≠ 0))]
                  refine Wp.stI (y := gb (HM σ0 l 9 (FS σ0 p (σ0 127 m) (σ0 128 m) t l) ≠ 0)) (gb_congr (Iff.of_eq (congrArg (fun x => x ≠ 0) (HM_congr hL (by omega) (by omega) (fun mm a _ => hvv 9 (by omega) mm a))))) ?_
                  show Wp _ _ _ _ _ _ [gI (gb (HM σ0 l 9 (FS σ0 p (σ0 127 m) (σ0 128 m) t l) ≠ 0))]
                  refine v_if_eqB (pc' := 357) (t := 361) dX12_sitsOf_354 rfl rfl (fun c_354 => ?_) (fun c_354 => ?_)
                  · skip
                    refine w_iconst (pc' := 362) (by decide) dX12_sitsOf_361 rfl ?_
                    refine v_ireturn rfl dX12_sitsOf_362 ?_
                    exact ⟨by unfold DUTY; rw [if_neg c_339, if_neg c_354], (QM.ur (k := 188) (f := V351) (QM.up (k := 187) (i := 13) (v := (gkI σ0 p (σ0 127 m) (σ0 128 m) t (NU σ0 l 0) (σ0 3 2).toNat)) (QM.up (k := 187) (i := 12) (v := (SHR σ0 p (σ0 127 m) (σ0 128 m) t)) (QM.up (k := 187) (i := 11) (v := (gb (POS σ0 p (HD (AR σ0 (σ0 128 m) t) (σ0 127 m)) (σ0 128 m) t (NU σ0 l 2) ≠ -1))) (QM.up (k := 187) (i := 5) (v := (gb (knP σ0 p (σ0 127 m) (σ0 128 m) t l))) (QM.up (k := 187) (i := 10) (v := (CNTV σ0 p (σ0 127 m) (σ0 128 m) t l)) (QM.up (k := 187) (i := 9) (v := (SUMV σ0 p (σ0 127 m) (σ0 128 m) t l)) (QM.ur (k := 172) (f := D34) hq_34 (lm_nfC 172 (by decide)) (fun h => h)) (lm_nfC 187 (by decide) _) (fun h => h)) (lm_nfC 187 (by decide) _) (fun h => h)) (lm_nfC 187 (by decide) _) (fun h => h)) (lm_nfC 187 (by decide) _) (fun h => h)) (lm_nfC 187 (by decide) _) (fun h => h)) (lm_nfC 187 (by decide) _) (fun h => h)) (lm_nfC 188 (by decide)) (fun h => h))⟩
                  · skip
                    refine w_iconst (pc' := 358) (by decide) dX12_sitsOf_357 rfl ?_
                    refine w_goto (pc' := 362) dX12_sitsOf_358 rfl ?_
                    refine v_ireturn rfl dX12_sitsOf_362 ?_
                    exact ⟨by unfold DUTY; rw [if_neg c_339, if_pos c_354], (QM.ur (k := 188) (f := V351) (QM.up (k := 187) (i := 13) (v := (gkI σ0 p (σ0 127 m) (σ0 128 m) t (NU σ0 l 0) (σ0 3 2).toNat)) (QM.up (k := 187) (i := 12) (v := (SHR σ0 p (σ0 127 m) (σ0 128 m) t)) (QM.up (k := 187) (i := 11) (v := (gb (POS σ0 p (HD (AR σ0 (σ0 128 m) t) (σ0 127 m)) (σ0 128 m) t (NU σ0 l 2) ≠ -1))) (QM.up (k := 187) (i := 5) (v := (gb (knP σ0 p (σ0 127 m) (σ0 128 m) t l))) (QM.up (k := 187) (i := 10) (v := (CNTV σ0 p (σ0 127 m) (σ0 128 m) t l)) (QM.up (k := 187) (i := 9) (v := (SUMV σ0 p (σ0 127 m) (σ0 128 m) t l)) (QM.ur (k := 172) (f := D34) hq_34 (lm_nfC 172 (by decide)) (fun h => h)) (lm_nfC 187 (by decide) _) (fun h => h)) (lm_nfC 187 (by decide) _) (fun h => h)) (lm_nfC 187 (by decide) _) (fun h => h)) (lm_nfC 187 (by decide) _) (fun h => h)) (lm_nfC 187 (by decide) _) (fun h => h)) (lm_nfC 187 (by decide) _) (fun h => h)) (lm_nfC 188 (by decide)) (fun h => h))⟩
                · skip
                  refine w_iconst (pc' := 343) (by decide) dX12_sitsOf_342 rfl ?_
                  refine w_goto (pc' := 362) dX12_sitsOf_343 rfl ?_
                  refine v_ireturn rfl dX12_sitsOf_362 ?_
                  exact ⟨by unfold DUTY; rw [if_pos c_339], (QM.ur (k := 188) (f := V336) (QM.up (k := 187) (i := 13) (v := (gkI σ0 p (σ0 127 m) (σ0 128 m) t (NU σ0 l 0) (σ0 3 2).toNat)) (QM.up (k := 187) (i := 12) (v := (SHR σ0 p (σ0 127 m) (σ0 128 m) t)) (QM.up (k := 187) (i := 11) (v := (gb (POS σ0 p (HD (AR σ0 (σ0 128 m) t) (σ0 127 m)) (σ0 128 m) t (NU σ0 l 2) ≠ -1))) (QM.up (k := 187) (i := 5) (v := (gb (knP σ0 p (σ0 127 m) (σ0 128 m) t l))) (QM.up (k := 187) (i := 10) (v := (CNTV σ0 p (σ0 127 m) (σ0 128 m) t l)) (QM.up (k := 187) (i := 9) (v := (SUMV σ0 p (σ0 127 m) (σ0 128 m) t l)) (QM.ur (k := 172) (f := D34) hq_34 (lm_nfC 172 (by decide)) (fun h => h)) (lm_nfC 187 (by decide) _) (fun h => h)) (lm_nfC 187 (by decide) _) (fun h => h)) (lm_nfC 187 (by decide) _) (fun h => h)) (lm_nfC 187 (by decide) _) (fun h => h)) (lm_nfC 187 (by decide) _) (fun h => h)) (lm_nfC 187 (by decide) _) (fun h => h)) (lm_nfC 188 (by decide)) (fun h => h))⟩
              · skip
                refine w_aload_n (pc' := 265) (i := 0) (by rfl) (by rfl) dX12_sitsOf_264 rfl ?_
                refine w_getS (pc' := 268) (q := 135) fg_X12_13 kd_133 sf_X12_4 gr_133_4 dX12_sitsOf_265 rfl ?_
                refine w_iload (pc' := 270) (by rfl) dX12_sitsOf_268 rfl ?_
                refine w_iald (pc' := 271) kd_135 (by (first | omega | (have := hrow (by omega); omega) | (have := hrow (by omega); have := hsp () (by omega); omega))) (by (first | omega | (have := hrow (by omega); omega) | (have := hrow (by omega); have := hsp () (by omega); omega))) dX12_sitsOf_270 rfl ?_
                show Wp _ _ _ _ _ _ [gI (σ34 135 q)]
                rw [(hq_34).rd (k := 135) (i := q) (.inr rfl)]
                rw [hI.e135 (i := q) (by (first | omega | (have := hrow (by omega); omega) | (have := hrow (by omega); have := hsp () (by omega); omega))) (by (first | omega | (have := hrow (by omega); omega) | (have := hrow (by omega); have := hsp () (by omega); omega)))]
                refine w_if_ne (pc' := 274) (t := 325) dX12_sitsOf_271 rfl rfl (fun c_271 => ?_) (fun c_271 => ?_)
                · skip
                  refine v_iinc (pc' := 328) (x := q) (ls' := [gR 133, gI m, gI p, gI t, gI (σ0 127 m), gI (σ0 128 m), gI l, gI (NU σ0 l 0), gI (σ34 169 (σ0 127 m)), gI (q + 1)]) (by (first | omega | (have := hrow (by omega); omega) | (have := hrow (by omega); have := hsp () (by omega); omega))) (by decide) (by rfl) (by rfl) dX12_sitsOf_325 rfl ?_
                  refine w_goto (pc' := 255) dX12_sitsOf_328 rfl ?_
                  exact ih_255 _ (by omega) (q + 1) v rfl (by omega) (by omega) (by first | exact Eq.symm (es.trans ((if_neg (by omega)).trans hv.symm)) | exact Eq.symm (es.trans ((if_pos (by omega)).trans ((if_pos (by omega)).trans (by rfl)))) | exact Eq.symm (es.trans ((if_pos (by omega)).trans ((if_neg (by omega)).trans hv.symm))))
                · skip
                  refine w_iload (pc' := 276) (by rfl) dX12_sitsOf_274 rfl ?_
                  refine w_iload_n (pc' := 277) (i := 2) (by rfl) (by rfl) dX12_sitsOf_276 rfl ?_
                  refine w_icmp_eq (pc' := 280) (t := 325) dX12_sitsOf_277 rfl rfl (fun c_277 => ?_) (fun c_277 => ?_)
                  · skip
                    refine v_iinc (pc' := 328) (x := q) (ls' := [gR 133, gI m, gI p, gI t, gI (σ0 127 m), gI (σ0 128 m), gI l, gI (NU σ0 l 0), gI (σ34 169 (σ0 127 m)), gI (q + 1)]) (by (first | omega | (have := hrow (by omega); omega) | (have := hrow (by omega); have := hsp () (by omega); omega))) (by decide) (by rfl) (by rfl) dX12_sitsOf_325 rfl ?_
                    refine w_goto (pc' := 255) dX12_sitsOf_328 rfl ?_
                    exact ih_255 _ (by omega) (q + 1) v rfl (by omega) (by omega) (by first | exact Eq.symm (es.trans ((if_neg (by omega)).trans hv.symm)) | exact Eq.symm (es.trans ((if_pos (by omega)).trans ((if_pos (by omega)).trans (by rfl)))) | exact Eq.symm (es.trans ((if_pos (by omega)).trans ((if_neg (by omega)).trans hv.symm))))
                  · skip
                    refine w_aload_n (pc' := 281) (i := 0) (by rfl) (by rfl) dX12_sitsOf_280 rfl ?_
                    refine w_getS (pc' := 284) (q := 172) fg_X12_136 kd_133 sf_X12_53 gr_133_53 dX12_sitsOf_281 rfl ?_
                    refine w_iload (pc' := 286) (by rfl) dX12_sitsOf_284 rfl ?_
                    refine w_iald (pc' := 287) kd_172 (by (first | omega | (have := hrow (by omega); omega) | (have := hrow (by omega); have := hsp () (by omega); omega))) (by (first | omega | (have := hrow (by omega); omega) | (have := hrow (by omega); have := hsp () (by omega); omega))) dX12_sitsOf_286 rfl ?_
                    show Wp _ _ _ _ _ _ [gI (D34 q)]
                    refine w_iload (pc' := 289) (by rfl) dX12_sitsOf_287 rfl ?_
                    refine w_icmp_gt (pc' := 292) (t := 325) dX12_sitsOf_289 rfl rfl (fun c_289 => ?_) (fun c_289 => ?_)
                    · skip
                      refine v_iinc (pc' := 328) (x := q) (ls' := [gR 133, gI m, gI p, gI t, gI (σ0 127 m), gI (σ0 128 m), gI l, gI (NU σ0 l 0), gI (σ34 169 (σ0 127 m)), gI (q + 1)]) (by (first | omega | (have := hrow (by omega); omega) | (have := hrow (by omega); have := hsp () (by omega); omega))) (by decide) (by rfl) (by rfl) dX12_sitsOf_325 rfl ?_
                      refine w_goto (pc' := 255) dX12_sitsOf_328 rfl ?_
                      exact ih_255 _ (by omega) (q + 1) v rfl (by omega) (by omega) (by first | exact Eq.symm (es.trans ((if_neg (by omega)).trans hv.symm)) | exact Eq.symm (es.trans ((if_pos (by omega)).trans ((if_pos (by omega)).trans (by rfl)))) | exact Eq.symm (es.trans ((if_pos (by omega)).trans ((if_neg (by omega)).trans hv.symm))))
                    · skip
                      refine w_aload_n (pc' := 293) (i := 0) (by rfl) (by rfl) dX12_sitsOf_292 rfl ?_
                      refine w_iload (pc' := 295) (by rfl) dX12_sitsOf_293 rfl ?_
                      refine w_iload (pc' := 297) (by rfl) dX12_sitsOf_295 rfl ?_
                      refine v_callVE (pc' := 300) (st' := [gI (SHR σ0 q (σ0 127 m) (σ0 128 m) t)]) (d' := 2) (av := [gI q, gI (σ0 127 m)]) mi_mX12_shareOf lk_X12_552 rfl ci_X12 kd_133 rfl (Nat.le_of_ble_eq_true rfl) (Nat.le_of_ble_eq_true rfl) dX12_sitsOf_297 rfl rfl (q_shareOf (σ := gUp (gUp (gUp (gUp (gUp (gUp (gUr σ34 172 D34) 187 9 (SUMV σ0 p (σ0 127 m) (σ0 128 m) t l)) 187 10 (CNTV σ0 p (σ0 127 m) (σ0 128 m) t l)) 187 5 (gb (knP σ0 p (σ0 127 m) (σ0 128 m) t l))) 187 11 (gb (POS σ0 p (HD (AR σ0 (σ0 128 m) t) (σ0 127 m)) (σ0 128 m) t (NU σ0 l 2) ≠ -1))) 187 12 (SHR σ0 p (σ0 127 m) (σ0 128 m) t)) 187 13 v) (A := AR σ0 (σ0 128 m) t) (n := σ0 3 2) (fun x f a b c e => (hw_34.1 x f a b c e).1) (fun c f => AR_in hI (σ0 128 m) t c f) ((hq_34.rd (.inr rfl)).trans hI.f6) (by omega) (by omega) (fun g f h => AR_out hI (by omega)) (fun y => AR_out hI (by omega)) q (σ0 127 m) ⟨by omega, by omega⟩ ⟨by omega, by omega⟩) ?_
                      refine w_aload_n (pc' := 301) (i := 0) (by rfl) (by rfl) dX12_sitsOf_300 rfl ?_
                      refine w_getS (pc' := 304) (q := 187) fg_X12_181 kd_133 sf_X12_85 gr_133_85 dX12_sitsOf_301 rfl ?_
                      refine w_bipush (pc' := 306) (by decide) (by decide) dX12_sitsOf_304 rfl ?_
                      refine w_iald (pc' := 307) kd_187 (by (first | omega | (have := hrow (by omega); omega) | (have := hrow (by omega); have := hsp () (by omega); omega))) (by (first | omega | (have := hrow (by omega); omega) | (have := hrow (by omega); have := hsp () (by omega); omega))) dX12_sitsOf_306 rfl ?_
                      show Wp _ _ _ _ _ _ [gI v, gI (SHR σ0 q (σ0 127 m) (σ0 128 m) t)]
                      refine w_icmp_le (pc' := 310) (t := 325) dX12_sitsOf_307 rfl rfl (fun c_307 => ?_) (fun c_307 => ?_)
                      · skip
                        refine v_iinc (pc' := 328) (x := q) (ls' := [gR 133, gI m, gI p, gI t, gI (σ0 127 m), gI (σ0 128 m), gI l, gI (NU σ0 l 0), gI (σ34 169 (σ0 127 m)), gI (q + 1)]) (by (first | omega | (have := hrow (by omega); omega) | (have := hrow (by omega); have := hsp () (by omega); omega))) (by decide) (by rfl) (by rfl) dX12_sitsOf_325 rfl ?_
                        refine w_goto (pc' := 255) dX12_sitsOf_328 rfl ?_
                        exact ih_255 _ (by omega) (q + 1) v rfl (by omega) (by omega) (by first | exact Eq.symm (es.trans ((if_neg (by omega)).trans hv.symm)) | exact Eq.symm (es.trans ((if_pos (by omega)).trans ((if_pos (by omega)).trans (by rfl)))) | exact Eq.symm (es.trans ((if_pos (by omega)).trans ((if_neg (by omega)).trans hv.symm))))
                      · skip
                        refine w_aload_n (pc' := 311) (i := 0) (by rfl) (by rfl) dX12_sitsOf_310 rfl ?_
                        refine w_getS (pc' := 314) (q := 187) fg_X12_181 kd_133 sf_X12_85 gr_133_85 dX12_sitsOf_311 rfl ?_
                        refine w_bipush (pc' := 316) (by decide) (by decide) dX12_sitsOf_314 rfl ?_
                        refine w_aload_n (pc' := 317) (i := 0) (by rfl) (by rfl) dX12_sitsOf_316 rfl ?_
                        refine w_iload (pc' := 319) (by rfl) dX12_sitsOf_317 rfl ?_
                        refine w_iload (pc' := 321) (by rfl) dX12_sitsOf_319 rfl ?_
                        refine v_callVE (pc' := 324) (st' := [gI (SHR σ0 q (σ0 127 m) (σ0 128 m) t), gI 13, gR 187]) (d' := 2) (av := [gI q, gI (σ0 127 m)]) mi_mX12_shareOf lk_X12_552 rfl ci_X12 kd_133 rfl (Nat.le_of_ble_eq_true rfl) (Nat.le_of_ble_eq_true rfl) dX12_sitsOf_321 rfl rfl (q_shareOf (σ := gUp (gUp (gUp (gUp (gUp (gUp (gUr σ34 172 D34) 187 9 (SUMV σ0 p (σ0 127 m) (σ0 128 m) t l)) 187 10 (CNTV σ0 p (σ0 127 m) (σ0 128 m) t l)) 187 5 (gb (knP σ0 p (σ0 127 m) (σ0 128 m) t l))) 187 11 (gb (POS σ0 p (HD (AR σ0 (σ0 128 m) t) (σ0 127 m)) (σ0 128 m) t (NU σ0 l 2) ≠ -1))) 187 12 (SHR σ0 p (σ0 127 m) (σ0 128 m) t)) 187 13 v) (A := AR σ0 (σ0 128 m) t) (n := σ0 3 2) (fun x f a b c e => (hw_34.1 x f a b c e).1) (fun c f => AR_in hI (σ0 128 m) t c f) ((hq_34.rd (.inr rfl)).trans hI.f6) (by omega) (by omega) (fun g f h => AR_out hI (by omega)) (fun y => AR_out hI (by omega)) q (σ0 127 m) ⟨by omega, by omega⟩ ⟨by omega, by omega⟩) ?_
                        refine w_iast (pc' := 325) kd_187 (by (first | omega | (have := hrow (by omega); omega) | (have := hrow (by omega); have := hsp () (by omega); omega))) (by (first | omega | (have := hrow (by omega); omega) | (have := hrow (by omega); have := hsp () (by omega); omega))) dX12_sitsOf_324 rfl ?_
                        refine Wp.heq (σ' := gUp (gUp (gUp (gUp (gUp (gUp (gUr σ34 172 D34) 187 9 (SUMV σ0 p (σ0 127 m) (σ0 128 m) t l)) 187 10 (CNTV σ0 p (σ0 127 m) (σ0 128 m) t l)) 187 5 (gb (knP σ0 p (σ0 127 m) (σ0 128 m) t l))) 187 11 (gb (POS σ0 p (HD (AR σ0 (σ0 128 m) t) (σ0 127 m)) (σ0 128 m) t (NU σ0 l 2) ≠ -1))) 187 12 (SHR σ0 p (σ0 127 m) (σ0 128 m) t)) 187 13 (SHR σ0 q (σ0 127 m) (σ0 128 m) t)) gUp_same ?_
                        refine v_iinc (pc' := 328) (x := q) (ls' := [gR 133, gI m, gI p, gI t, gI (σ0 127 m), gI (σ0 128 m), gI l, gI (NU σ0 l 0), gI (σ34 169 (σ0 127 m)), gI (q + 1)]) (by (first | omega | (have := hrow (by omega); omega) | (have := hrow (by omega); have := hsp () (by omega); omega))) (by decide) (by rfl) (by rfl) dX12_sitsOf_325 rfl ?_
                        refine w_goto (pc' := 255) dX12_sitsOf_328 rfl ?_
                        exact ih_255 _ (by omega) (q + 1) (SHR σ0 q (σ0 127 m) (σ0 128 m) t) rfl (by omega) (by omega) (by first | exact Eq.symm (es.trans ((if_neg (by omega)).trans hv.symm)) | exact Eq.symm (es.trans ((if_pos (by omega)).trans ((if_pos (by omega)).trans (by rfl)))) | exact Eq.symm (es.trans ((if_pos (by omega)).trans ((if_neg (by omega)).trans hv.symm))))
          exact hl_255 _ 0 0 rfl (by omega) (by omega) (by rfl)
        · skip
          refine w_aload_n (pc' := 131) (i := 0) (by rfl) (by rfl) dX12_sitsOf_130 rfl ?_
          refine w_getS (pc' := 134) (q := 148) fg_X12_57 kd_133 sf_X12_20 gr_133_20 dX12_sitsOf_131 rfl ?_
          refine w_iload (pc' := 136) (by rfl) dX12_sitsOf_134 rfl ?_
          refine w_iald (pc' := 137) kd_148 (by (first | omega | (have := hrow (by omega); omega) | (have := hrow (by omega); have := hsp () (by omega); omega))) (by (first | omega | (have := hrow (by omega); omega) | (have := hrow (by omega); have := hsp () (by omega); omega))) dX12_sitsOf_136 rfl ?_
          show Wp _ _ _ _ _ _ [gI (σ34 148 k)]
          rw [(hq_34).rd (k := 148) (i := k) (.inr rfl)]
          rw [hI.e148 (i := k) (by (first | omega | (have := hrow (by omega); omega) | (have := hrow (by omega); have := hsp () (by omega); omega))) (by (first | omega | (have := hrow (by omega); omega) | (have := hrow (by omega); have := hsp () (by omega); omega)))]
          refine w_iload_n (pc' := 138) (i := 2) (by rfl) (by rfl) dX12_sitsOf_137 rfl ?_
          refine w_icmp_ne (pc' := 141) (t := 224) dX12_sitsOf_138 rfl rfl (fun c_138 => ?_) (fun c_138 => ?_)
          · skip
            refine v_iinc (pc' := 227) (x := k) (ls' := [gR 133, gI m, gI p, gI t, gI (σ0 127 m), gI (σ0 128 m), gI l, gI (NU σ0 l 0), gI (σ34 169 (σ0 127 m)), gI (k + 1)]) (by (first | omega | (have := hrow (by omega); omega) | (have := hrow (by omega); have := hsp () (by omega); omega))) (by decide) (by rfl) (by rfl) dX12_sitsOf_224 rfl ?_
            refine w_goto (pc' := 121) dX12_sitsOf_227 rfl ?_
            exact ih_121 _ (by omega) (k + 1) b rfl (by omega) (by omega) (by first | (exact hb.trans (by rw [show fstI (poP σ0 p (HD (AR σ0 (σ0 128 m) t) (σ0 127 m)) (σ0 128 m) t (NU σ0 l 2)) (k + 1).toNat = fstI (poP σ0 p (HD (AR σ0 (σ0 128 m) t) (σ0 127 m)) (σ0 128 m) t (NU σ0 l 2)) k.toNat from es.trans (by by_cases cc : fstI (poP σ0 p (HD (AR σ0 (σ0 128 m) t) (σ0 127 m)) (σ0 128 m) t (NU σ0 l 2)) k.toNat = -1; (rw [if_neg (fun h => h cc), if_neg (show ¬ _ by first | omega | (have := hsp () (by omega); omega)), cc]); rw [if_pos cc])])) | exact (gb_t (P := fstI (poP σ0 p (HD (AR σ0 (σ0 128 m) t) (σ0 127 m)) (σ0 128 m) t (NU σ0 l 2)) (k + 1).toNat ≠ -1) (by rw [es]; by_cases cc : fstI (poP σ0 p (HD (AR σ0 (σ0 128 m) t) (σ0 127 m)) (σ0 128 m) t (NU σ0 l 2)) k.toNat = -1; (rw [if_neg (fun h => h cc), if_pos (show _ ∧ _ ∧ _ ∧ _ ∧ _ by have := hsp () (by omega); omega)]; omega); (rw [if_pos cc]; exact cc))).symm)
          · skip
            refine w_aload_n (pc' := 142) (i := 0) (by rfl) (by rfl) dX12_sitsOf_141 rfl ?_
            refine w_getS (pc' := 145) (q := 152) fg_X12_69 kd_133 sf_X12_24 gr_133_24 dX12_sitsOf_142 rfl ?_
            refine w_iload (pc' := 147) (by rfl) dX12_sitsOf_145 rfl ?_
            refine w_iald (pc' := 148) kd_152 (by (first | omega | (have := hrow (by omega); omega) | (have := hrow (by omega); have := hsp () (by omega); omega))) (by (first | omega | (have := hrow (by omega); omega) | (have := hrow (by omega); have := hsp () (by omega); omega))) dX12_sitsOf_147 rfl ?_
            show Wp _ _ _ _ _ _ [gI (σ34 152 k)]
            rw [(hq_34).rd (k := 152) (i := k) (.inr rfl)]
            rw [hI.e152 (i := k) (by (first | omega | (have := hrow (by omega); omega) | (have := hrow (by omega); have := hsp () (by omega); omega))) (by (first | omega | (have := hrow (by omega); omega) | (have := hrow (by omega); have := hsp () (by omega); omega)))]
            refine w_iload_n (pc' := 149) (i := 3) (by rfl) (by rfl) dX12_sitsOf_148 rfl ?_
            refine w_icmp_gt (pc' := 152) (t := 224) dX12_sitsOf_149 rfl rfl (fun c_149 => ?_) (fun c_149 => ?_)
            · skip
              refine v_iinc (pc' := 227) (x := k) (ls' := [gR 133, gI m, gI p, gI t, gI (σ0 127 m), gI (σ0 128 m), gI l, gI (NU σ0 l 0), gI (σ34 169 (σ0 127 m)), gI (k + 1)]) (by (first | omega | (have := hrow (by omega); omega) | (have := hrow (by omega); have := hsp () (by omega); omega))) (by decide) (by rfl) (by rfl) dX12_sitsOf_224 rfl ?_
              refine w_goto (pc' := 121) dX12_sitsOf_227 rfl ?_
              exact ih_121 _ (by omega) (k + 1) b rfl (by omega) (by omega) (by first | (exact hb.trans (by rw [show fstI (poP σ0 p (HD (AR σ0 (σ0 128 m) t) (σ0 127 m)) (σ0 128 m) t (NU σ0 l 2)) (k + 1).toNat = fstI (poP σ0 p (HD (AR σ0 (σ0 128 m) t) (σ0 127 m)) (σ0 128 m) t (NU σ0 l 2)) k.toNat from es.trans (by by_cases cc : fstI (poP σ0 p (HD (AR σ0 (σ0 128 m) t) (σ0 127 m)) (σ0 128 m) t (NU σ0 l 2)) k.toNat = -1; (rw [if_neg (fun h => h cc), if_neg (show ¬ _ by first | omega | (have := hsp () (by omega); omega)), cc]); rw [if_pos cc])])) | exact (gb_t (P := fstI (poP σ0 p (HD (AR σ0 (σ0 128 m) t) (σ0 127 m)) (σ0 128 m) t (NU σ0 l 2)) (k + 1).toNat ≠ -1) (by rw [es]; by_cases cc : fstI (poP σ0 p (HD (AR σ0 (σ0 128 m) t) (σ0 127 m)) (σ0 128 m) t (NU σ0 l 2)) k.toNat = -1; (rw [if_neg (fun h => h cc), if_pos (show _ ∧ _ ∧ _ ∧ _ ∧ _ by have := hsp () (by omega); omega)]; omega); (rw [if_pos cc]; exact cc))).symm)
            · skip
              refine w_aload_n (pc' := 153) (i := 0) (by rfl) (by rfl) dX12_sitsOf_152 rfl ?_
              refine w_getS (pc' := 156) (q := 150) fg_X12_63 kd_133 sf_X12_22 gr_133_22 dX12_sitsOf_153 rfl ?_
              refine w_iload (pc' := 158) (by rfl) dX12_sitsOf_156 rfl ?_
              refine w_iald (pc' := 159) kd_150 (by (first | omega | (have := hrow (by omega); omega) | (have := hrow (by omega); have := hsp () (by omega); omega))) (by (first | omega | (have := hrow (by omega); omega) | (have := hrow (by omega); have := hsp () (by omega); omega))) dX12_sitsOf_158 rfl ?_
              show Wp _ _ _ _ _ _ [gI (σ34 150 k)]
              rw [(hq_34).rd (k := 150) (i := k) (.inr rfl)]
              rw [hI.e150 (i := k) (by (first | omega | (have := hrow (by omega); omega) | (have := hrow (by omega); have := hsp () (by omega); omega))) (by (first | omega | (have := hrow (by omega); omega) | (have := hrow (by omega); have := hsp () (by omega); omega)))]
              refine w_iload (pc' := 161) (by rfl) dX12_sitsOf_159 rfl ?_
              refine w_icmp_gt (pc' := 164) (t := 224) dX12_sitsOf_161 rfl rfl (fun c_161 => ?_) (fun c_161 => ?_)
              · skip
                refine v_iinc (pc' := 227) (x := k) (ls' := [gR 133, gI m, gI p, gI t, gI (σ0 127 m), gI (σ0 128 m), gI l, gI (NU σ0 l 0), gI (σ34 169 (σ0 127 m)), gI (k + 1)]) (by (first | omega | (have := hrow (by omega); omega) | (have := hrow (by omega); have := hsp () (by omega); omega))) (by decide) (by rfl) (by rfl) dX12_sitsOf_224 rfl ?_
                refine w_goto (pc' := 121) dX12_sitsOf_227 rfl ?_
                exact ih_121 _ (by omega) (k + 1) b rfl (by omega) (by omega) (by first | (exact hb.trans (by rw [show fstI (poP σ0 p (HD (AR σ0 (σ0 128 m) t) (σ0 127 m)) (σ0 128 m) t (NU σ0 l 2)) (k + 1).toNat = fstI (poP σ0 p (HD (AR σ0 (σ0 128 m) t) (σ0 127 m)) (σ0 128 m) t (NU σ0 l 2)) k.toNat from es.trans (by by_cases cc : fstI (poP σ0 p (HD (AR σ0 (σ0 128 m) t) (σ0 127 m)) (σ0 128 m) t (NU σ0 l 2)) k.toNat = -1; (rw [if_neg (fun h => h cc), if_neg (show ¬ _ by first | omega | (have := hsp () (by omega); omega)), cc]); rw [if_pos cc])])) | exact (gb_t (P := fstI (poP σ0 p (HD (AR σ0 (σ0 128 m) t) (σ0 127 m)) (σ0 128 m) t (NU σ0 l 2)) (k + 1).toNat ≠ -1) (by rw [es]; by_cases cc : fstI (poP σ0 p (HD (AR σ0 (σ0 128 m) t) (σ0 127 m)) (σ0 128 m) t (NU σ0 l 2)) k.toNat = -1; (rw [if_neg (fun h => h cc), if_pos (show _ ∧ _ ∧ _ ∧ _ ∧ _ by have := hsp () (by omega); omega)]; omega); (rw [if_pos cc]; exact cc))).symm)
              · skip
                refine w_aload_n (pc' := 165) (i := 0) (by rfl) (by rfl) dX12_sitsOf_164 rfl ?_
                refine w_getS (pc' := 168) (q := 169) fg_X12_121 kd_133 sf_X12_45 gr_133_45 dX12_sitsOf_165 rfl ?_
                refine w_aload_n (pc' := 169) (i := 0) (by rfl) (by rfl) dX12_sitsOf_168 rfl ?_
                refine w_getS (pc' := 172) (q := 149) fg_X12_60 kd_133 sf_X12_21 gr_133_21 dX12_sitsOf_169 rfl ?_
                refine w_iload (pc' := 174) (by rfl) dX12_sitsOf_172 rfl ?_
                refine w_iald (pc' := 175) kd_149 (by (first | omega | (have := hrow (by omega); omega) | (have := hrow (by omega); have := hsp () (by omega); omega))) (by (first | omega | (have := hrow (by omega); omega) | (have := hrow (by omega); have := hsp () (by omega); omega))) dX12_sitsOf_174 rfl ?_
                show Wp _ _ _ _ _ _ [gI (σ34 149 k), gR 169]
                rw [(hq_34).rd (k := 149) (i := k) (.inr rfl)]
                rw [hI.e149 (i := k) (by (first | omega | (have := hrow (by omega); omega) | (have := hrow (by omega); have := hsp () (by omega); omega))) (by (first | omega | (have := hrow (by omega); omega) | (have := hrow (by omega); have := hsp () (by omega); omega)))]
                refine w_iald (pc' := 176) kd_169 (by (first | omega | (have := hrow (by omega); omega) | (have := hrow (by omega); have := hsp () (by omega); omega))) (by (first | omega | (have := hrow (by omega); omega) | (have := hrow (by omega); have := hsp () (by omega); omega))) dX12_sitsOf_175 rfl ?_
                show Wp _ _ _ _ _ _ [gI (σ34 169 (σ0 36 k))]
                refine w_iload (pc' := 178) (by rfl) dX12_sitsOf_176 rfl ?_
                refine w_icmp_eq (pc' := 181) (t := 184) dX12_sitsOf_178 rfl rfl (fun c_178 => ?_) (fun c_178 => ?_)
                · skip
                  refine w_aload_n (pc' := 185) (i := 0) (by rfl) (by rfl) dX12_sitsOf_184 rfl ?_
                  refine w_getS (pc' := 188) (q := 151) fg_X12_66 kd_133 sf_X12_23 gr_133_23 dX12_sitsOf_185 rfl ?_
                  refine w_iload (pc' := 190) (by rfl) dX12_sitsOf_188 rfl ?_
                  refine w_iald (pc' := 191) kd_151 (by (first | omega | (have := hrow (by omega); omega) | (have := hrow (by omega); have := hsp () (by omega); omega))) (by (first | omega | (have := hrow (by omega); omega) | (have := hrow (by omega); have := hsp () (by omega); omega))) dX12_sitsOf_190 rfl ?_
                  show Wp _ _ _ _ _ _ [gI (σ34 151 k)]
                  rw [(hq_34).rd (k := 151) (i := k) (.inr rfl)]
                  rw [hI.e151 (i := k) (by (first | omega | (have := hrow (by omega); omega) | (have := hrow (by omega); have := hsp () (by omega); omega))) (by (first | omega | (have := hrow (by omega); omega) | (have := hrow (by omega); have := hsp () (by omega); omega)))]
                  refine w_iload (pc' := 193) (by rfl) dX12_sitsOf_191 rfl ?_
                  refine w_icmp_ge (pc' := 196) (t := 216) dX12_sitsOf_193 rfl rfl (fun c_193 => ?_) (fun c_193 => ?_)
                  · skip
                    refine w_aload_n (pc' := 217) (i := 0) (by rfl) (by rfl) dX12_sitsOf_216 rfl ?_
                    refine w_getS (pc' := 220) (q := 187) fg_X12_181 kd_133 sf_X12_85 gr_133_85 dX12_sitsOf_217 rfl ?_
                    refine w_bipush (pc' := 222) (by decide) (by decide) dX12_sitsOf_220 rfl ?_
                    refine w_iconst (pc' := 223) (by decide) dX12_sitsOf_222 rfl ?_
                    refine w_iast (pc' := 224) kd_187 (by (first | omega | (have := hrow (by omega); omega) | (have := hrow (by omega); have := hsp () (by omega); omega))) (by (first | omega | (have := hrow (by omega); omega) | (have := hrow (by omega); have := hsp () (by omega); omega))) dX12_sitsOf_223 rfl ?_
                    refine Wp.heq (σ' := gUp (gUp (gUp (gUp (gUr σ34 172 D34) 187 9 (SUMV σ0 p (σ0 127 m) (σ0 128 m) t l)) 187 10 (CNTV σ0 p (σ0 127 m) (σ0 128 m) t l)) 187 5 (gb (knP σ0 p (σ0 127 m) (σ0 128 m) t l))) 187 11 1) gUp_same ?_
                    refine v_iinc (pc' := 227) (x := k) (ls' := [gR 133, gI m, gI p, gI t, gI (σ0 127 m), gI (σ0 128 m), gI l, gI (NU σ0 l 0), gI (σ34 169 (σ0 127 m)), gI (k + 1)]) (by (first | omega | (have := hrow (by omega); omega) | (have := hrow (by omega); have := hsp () (by omega); omega))) (by decide) (by rfl) (by rfl) dX12_sitsOf_224 rfl ?_
                    refine w_goto (pc' := 121) dX12_sitsOf_227 rfl ?_
                    exact ih_121 _ (by omega) (k + 1) 1 rfl (by omega) (by omega) (by first | (exact hb.trans (by rw [show fstI (poP σ0 p (HD (AR σ0 (σ0 128 m) t) (σ0 127 m)) (σ0 128 m) t (NU σ0 l 2)) (k + 1).toNat = fstI (poP σ0 p (HD (AR σ0 (σ0 128 m) t) (σ0 127 m)) (σ0 128 m) t (NU σ0 l 2)) k.toNat from es.trans (by by_cases cc : fstI (poP σ0 p (HD (AR σ0 (σ0 128 m) t) (σ0 127 m)) (σ0 128 m) t (NU σ0 l 2)) k.toNat = -1; (rw [if_neg (fun h => h cc), if_neg (show ¬ _ by first | omega | (have := hsp () (by omega); omega)), cc]); rw [if_pos cc])])) | exact (gb_t (P := fstI (poP σ0 p (HD (AR σ0 (σ0 128 m) t) (σ0 127 m)) (σ0 128 m) t (NU σ0 l 2)) (k + 1).toNat ≠ -1) (by rw [es]; by_cases cc : fstI (poP σ0 p (HD (AR σ0 (σ0 128 m) t) (σ0 127 m)) (σ0 128 m) t (NU σ0 l 2)) k.toNat = -1; (rw [if_neg (fun h => h cc), if_pos (show _ ∧ _ ∧ _ ∧ _ ∧ _ by have := hsp () (by omega); omega)]; omega); (rw [if_pos cc]; exact cc))).symm)
                  · skip
                    refine w_iload (pc' := 198) (by rfl) dX12_sitsOf_196 rfl ?_
                    refine w_aload_n (pc' := 199) (i := 0) (by rfl) (by rfl) dX12_sitsOf_198 rfl ?_
                    refine w_getS (pc' := 202) (q := 151) fg_X12_66 kd_133 sf_X12_23 gr_133_23 dX12_sitsOf_199 rfl ?_
                    refine w_iload (pc' := 204) (by rfl) dX12_sitsOf_202 rfl ?_
                    refine w_iald (pc' := 205) kd_151 (by (first | omega | (have := hrow (by omega); omega) | (have := hrow (by omega); have := hsp () (by omega); omega))) (by (first | omega | (have := hrow (by omega); omega) | (have := hrow (by omega); have := hsp () (by omega); omega))) dX12_sitsOf_204 rfl ?_
                    show Wp _ _ _ _ _ _ [gI (σ34 151 k), gI (σ0 128 m)]
                    rw [(hq_34).rd (k := 151) (i := k) (.inr rfl)]
                    rw [hI.e151 (i := k) (by (first | omega | (have := hrow (by omega); omega) | (have := hrow (by omega); have := hsp () (by omega); omega))) (by (first | omega | (have := hrow (by omega); omega) | (have := hrow (by omega); have := hsp () (by omega); omega)))]
                    refine v_isub (pc' := 206) (by (first | omega | (have := hrow (by omega); omega) | (have := hrow (by omega); have := hsp () (by omega); omega))) dX12_sitsOf_205 rfl ?_
                    refine w_aload_n (pc' := 207) (i := 0) (by rfl) (by rfl) dX12_sitsOf_206 rfl ?_
                    refine w_iload (pc' := 209) (by rfl) dX12_sitsOf_207 rfl ?_
                    refine w_iconst (pc' := 210) (by decide) dX12_sitsOf_209 rfl ?_
                    refine v_callVE (pc' := 213) (st' := [gI (NU σ0 l 2), gI ((σ0 128 m) - (ev (σ0 39 k)))]) (d' := 0) (av := [gI l, gI 2]) mi_mX12_numberOf lk_X12_503 rfl ci_X12 kd_133 rfl (Nat.le_of_ble_eq_true rfl) (Nat.le_of_ble_eq_true rfl) dX12_sitsOf_210 rfl rfl (q_numberOf hI ((lm_up (k := 187) (i := 11) (v := b) (lm_nfC 187 (by decide) _)).trans ((lm_up (k := 187) (i := 5) (v := (gb (knP σ0 p (σ0 127 m) (σ0 128 m) t l))) (lm_nfC 187 (by decide) _)).trans ((lm_up (k := 187) (i := 10) (v := (CNTV σ0 p (σ0 127 m) (σ0 128 m) t l)) (lm_nfC 187 (by decide) _)).trans ((lm_up (k := 187) (i := 9) (v := (SUMV σ0 p (σ0 127 m) (σ0 128 m) t l)) (lm_nfC 187 (by decide) _)).trans ((lm_ur (k := 172) (f := D34) (lm_nfC 172 (by decide))).trans hq_34.1))))) l 2 (by omega) (by omega)) ?_
                    refine w_icmp_gt (pc' := 216) (t := 224) dX12_sitsOf_213 rfl rfl (fun c_213 => ?_) (fun c_213 => ?_)
                    · skip
                      refine v_iinc (pc' := 227) (x := k) (ls' := [gR 133, gI m, gI p, gI t, gI (σ0 127 m), gI (σ0 128 m), gI l, gI (NU σ0 l 0), gI (σ34 169 (σ0 127 m)), gI (k + 1)]) (by (first | omega | (have := hrow (by omega); omega) | (have := hrow (by omega); have := hsp () (by omega); omega))) (by decide) (by rfl) (by rfl) dX12_sitsOf_224 rfl ?_
                      refine w_goto (pc' := 121) dX12_sitsOf_227 rfl ?_
                      exact ih_121 _ (by omega) (k + 1) b rfl (by omega) (by omega) (by first | (exact hb.trans (by rw [show fstI (poP σ0 p (HD (AR σ0 (σ0 128 m) t) (σ0 127 m)) (σ0 128 m) t (NU σ0 l 2)) (k + 1).toNat = fstI (poP σ0 p (HD (AR σ0 (σ0 128 m) t) (σ0 127 m)) (σ0 128 m) t (NU σ0 l 2)) k.toNat from es.trans (by by_cases cc : fstI (poP σ0 p (HD (AR σ0 (σ0 128 m) t) (σ0 127 m)) (σ0 128 m) t (NU σ0 l 2)) k.toNat = -1; (rw [if_neg (fun h => h cc), if_neg (show ¬ _ by first | omega | (have := hsp () (by omega); omega)), cc]); rw [if_pos cc])])) | exact (gb_t (P := fstI (poP σ0 p (HD (AR σ0 (σ0 128 m) t) (σ0 127 m)) (σ0 128 m) t (NU σ0 l 2)) (k + 1).toNat ≠ -1) (by rw [es]; by_cases cc : fstI (poP σ0 p (HD (AR σ0 (σ0 128 m) t) (σ0 127 m)) (σ0 128 m) t (NU σ0 l 2)) k.toNat = -1; (rw [if_neg (fun h => h cc), if_pos (show _ ∧ _ ∧ _ ∧ _ ∧ _ by have := hsp () (by omega); omega)]; omega); (rw [if_pos cc]; exact cc))).symm)
                    · skip
                      refine w_aload_n (pc' := 217) (i := 0) (by rfl) (by rfl) dX12_sitsOf_216 rfl ?_
                      refine w_getS (pc' := 220) (q := 187) fg_X12_181 kd_133 sf_X12_85 gr_133_85 dX12_sitsOf_217 rfl ?_
                      refine w_bipush (pc' := 222) (by decide) (by decide) dX12_sitsOf_220 rfl ?_
                      refine w_iconst (pc' := 223) (by decide) dX12_sitsOf_222 rfl ?_
                      refine w_iast (pc' := 224) kd_187 (by (first | omega | (have := hrow (by omega); omega) | (have := hrow (by omega); have := hsp () (by omega); omega))) (by (first | omega | (have := hrow (by omega); omega) | (have := hrow (by omega); have := hsp () (by omega); omega))) dX12_sitsOf_223 rfl ?_
                      refine Wp.heq (σ' := gUp (gUp (gUp (gUp (gUr σ34 172 D34) 187 9 (SUMV σ0 p (σ0 127 m) (σ0 128 m) t l)) 187 10 (CNTV σ0 p (σ0 127 m) (σ0 128 m) t l)) 187 5 (gb (knP σ0 p (σ0 127 m) (σ0 128 m) t l))) 187 11 1) gUp_same ?_
                      refine v_iinc (pc' := 227) (x := k) (ls' := [gR 133, gI m, gI p, gI t, gI (σ0 127 m), gI (σ0 128 m), gI l, gI (NU σ0 l 0), gI (σ34 169 (σ0 127 m)), gI (k + 1)]) (by (first | omega | (have := hrow (by omega); omega) | (have := hrow (by omega); have := hsp () (by omega); omega))) (by decide) (by rfl) (by rfl) dX12_sitsOf_224 rfl ?_
                      refine w_goto (pc' := 121) dX12_sitsOf_227 rfl ?_
                      exact ih_121 _ (by omega) (k + 1) 1 rfl (by omega) (by omega) (by first | (exact hb.trans (by rw [show fstI (poP σ0 p (HD (AR σ0 (σ0 128 m) t) (σ0 127 m)) (σ0 128 m) t (NU σ0 l 2)) (k + 1).toNat = fstI (poP σ0 p (HD (AR σ0 (σ0 128 m) t) (σ0 127 m)) (σ0 128 m) t (NU σ0 l 2)) k.toNat from es.trans (by by_cases cc : fstI (poP σ0 p (HD (AR σ0 (σ0 128 m) t) (σ0 127 m)) (σ0 128 m) t (NU σ0 l 2)) k.toNat = -1; (rw [if_neg (fun h => h cc), if_neg (show ¬ _ by first | omega | (have := hsp () (by omega); omega)), cc]); rw [if_pos cc])])) | exact (gb_t (P := fstI (poP σ0 p (HD (AR σ0 (σ0 128 m) t) (σ0 127 m)) (σ0 128 m) t (NU σ0 l 2)) (k + 1).toNat ≠ -1) (by rw [es]; by_cases cc : fstI (poP σ0 p (HD (AR σ0 (σ0 128 m) t) (σ0 127 m)) (σ0 128 m) t (NU σ0 l 2)) k.toNat = -1; (rw [if_neg (fun h => h cc), if_pos (show _ ∧ _ ∧ _ ∧ _ ∧ _ by have := hsp () (by omega); omega)]; omega); (rw [if_pos cc]; exact cc))).symm)
                · skip
                  refine w_goto (pc' := 224) dX12_sitsOf_181 rfl ?_
                  refine v_iinc (pc' := 227) (x := k) (ls' := [gR 133, gI m, gI p, gI t, gI (σ0 127 m), gI (σ0 128 m), gI l, gI (NU σ0 l 0), gI (σ34 169 (σ0 127 m)), gI (k + 1)]) (by (first | omega | (have := hrow (by omega); omega) | (have := hrow (by omega); have := hsp () (by omega); omega))) (by decide) (by rfl) (by rfl) dX12_sitsOf_224 rfl ?_
                  refine w_goto (pc' := 121) dX12_sitsOf_227 rfl ?_
                  exact ih_121 _ (by omega) (k + 1) b rfl (by omega) (by omega) (by first | (exact hb.trans (by rw [show fstI (poP σ0 p (HD (AR σ0 (σ0 128 m) t) (σ0 127 m)) (σ0 128 m) t (NU σ0 l 2)) (k + 1).toNat = fstI (poP σ0 p (HD (AR σ0 (σ0 128 m) t) (σ0 127 m)) (σ0 128 m) t (NU σ0 l 2)) k.toNat from es.trans (by by_cases cc : fstI (poP σ0 p (HD (AR σ0 (σ0 128 m) t) (σ0 127 m)) (σ0 128 m) t (NU σ0 l 2)) k.toNat = -1; (rw [if_neg (fun h => h cc), if_neg (show ¬ _ by first | omega | (have := hsp () (by omega); omega)), cc]); rw [if_pos cc])])) | exact (gb_t (P := fstI (poP σ0 p (HD (AR σ0 (σ0 128 m) t) (σ0 127 m)) (σ0 128 m) t (NU σ0 l 2)) (k + 1).toNat ≠ -1) (by rw [es]; by_cases cc : fstI (poP σ0 p (HD (AR σ0 (σ0 128 m) t) (σ0 127 m)) (σ0 128 m) t (NU σ0 l 2)) k.toNat = -1; (rw [if_neg (fun h => h cc), if_pos (show _ ∧ _ ∧ _ ∧ _ ∧ _ by have := hsp () (by omega); omega)]; omega); (rw [if_pos cc]; exact cc))).symm)
    exact hl_121 _ 0 0 rfl (by omega) (by omega) (by rfl)
  refine w_aload_n (pc' := 61) (i := 0) (by rfl) (by rfl) dX12_sitsOf_60 rfl ?_
  refine w_getS (pc' := 64) (q := 135) fg_X12_13 kd_133 sf_X12_4 gr_133_4 dX12_sitsOf_61 rfl ?_
  refine w_iload (pc' := 66) (by rfl) dX12_sitsOf_64 rfl ?_
  refine w_iald (pc' := 67) kd_135 (by (first | omega | (have := hrow (by omega); omega) | (have := hrow (by omega); have := hsp () (by omega); omega))) (by (first | omega | (have := hrow (by omega); omega) | (have := hrow (by omega); have := hsp () (by omega); omega))) dX12_sitsOf_66 rfl ?_
  show Wp _ _ _ _ _ _ [gI (σ34 135 (σ0 127 m)), gI 5, gR 187]
  rw [(hq_34).rd (k := 135) (i := σ0 127 m) (.inr rfl)]
  rw [hI.e135 (i := σ0 127 m) (by (first | omega | (have := hrow (by omega); omega) | (have := hrow (by omega); have := hsp () (by omega); omega))) (by (first | omega | (have := hrow (by omega); omega) | (have := hrow (by omega); have := hsp () (by omega); omega)))]
  refine w_if_ne (pc' := 70) (t := 82) dX12_sitsOf_67 rfl rfl (fun c_67 => ?_) (fun c_67 => ?_)
  · skip
    refine w_aload_n (pc' := 83) (i := 0) (by rfl) (by rfl) dX12_sitsOf_82 rfl ?_
    refine w_getS (pc' := 86) (q := 135) fg_X12_13 kd_133 sf_X12_4 gr_133_4 dX12_sitsOf_83 rfl ?_
    refine w_iload (pc' := 88) (by rfl) dX12_sitsOf_86 rfl ?_
    refine w_iald (pc' := 89) kd_135 (by (first | omega | (have := hrow (by omega); omega) | (have := hrow (by omega); have := hsp () (by omega); omega))) (by (first | omega | (have := hrow (by omega); omega) | (have := hrow (by omega); have := hsp () (by omega); omega))) dX12_sitsOf_88 rfl ?_
    show Wp _ _ _ _ _ _ [gI (σ34 135 (σ34 169 (σ0 127 m))), gI 5, gR 187]
    rw [(hq_34).rd (k := 135) (i := σ34 169 (σ0 127 m)) (.inr rfl)]
    rw [hI.e135 (i := σ34 169 (σ0 127 m)) (by (first | omega | (have := hrow (by omega); omega) | (have := hrow (by omega); have := hsp () (by omega); omega))) (by (first | omega | (have := hrow (by omega); omega) | (have := hrow (by omega); have := hsp () (by omega); omega)))]
    refine w_if_ne (pc' := 92) (t := 108) dX12_sitsOf_89 rfl rfl (fun c_89 => ?_) (fun c_89 => ?_)
    · skip
      refine w_iconst (pc' := 109) (by decide) dX12_sitsOf_108 rfl ?_
      exact Wp.stI (by first | (exfalso; omega) | exact (gb_f (P := knP σ0 p (σ0 127 m) (σ0 128 m) t l) (by omega)).symm) hj_109
    · skip
      refine w_aload_n (pc' := 93) (i := 0) (by rfl) (by rfl) dX12_sitsOf_92 rfl ?_
      refine w_getS (pc' := 96) (q := 172) fg_X12_136 kd_133 sf_X12_53 gr_133_53 dX12_sitsOf_93 rfl ?_
      refine w_iload (pc' := 98) (by rfl) dX12_sitsOf_96 rfl ?_
      refine w_iald (pc' := 99) kd_172 (by (first | omega | (have := hrow (by omega); omega) | (have := hrow (by omega); have := hsp () (by omega); omega))) (by (first | omega | (have := hrow (by omega); omega) | (have := hrow (by omega); have := hsp () (by omega); omega))) dX12_sitsOf_98 rfl ?_
      show Wp _ _ _ _ _ _ [gI (D34 (σ34 169 (σ0 127 m))), gI 5, gR 187]
      refine w_iload (pc' := 101) (by rfl) dX12_sitsOf_99 rfl ?_
      refine w_icmp_gt (pc' := 104) (t := 108) dX12_sitsOf_101 rfl rfl (fun c_101 => ?_) (fun c_101 => ?_)
      · skip
        refine w_iconst (pc' := 109) (by decide) dX12_sitsOf_108 rfl ?_
        exact Wp.stI (by first | (exfalso; omega) | exact (gb_f (P := knP σ0 p (σ0 127 m) (σ0 128 m) t l) (by omega)).symm) hj_109
      · skip
        refine w_iconst (pc' := 105) (by decide) dX12_sitsOf_104 rfl ?_
        refine w_goto (pc' := 109) dX12_sitsOf_105 rfl ?_
        exact Wp.stI (by first | (exfalso; omega) | exact (gb_t (P := knP σ0 p (σ0 127 m) (σ0 128 m) t l) (by omega)).symm) hj_109
  · skip
    refine w_aload_n (pc' := 71) (i := 0) (by rfl) (by rfl) dX12_sitsOf_70 rfl ?_
    refine w_getS (pc' := 74) (q := 172) fg_X12_136 kd_133 sf_X12_53 gr_133_53 dX12_sitsOf_71 rfl ?_
    refine w_iload (pc' := 76) (by rfl) dX12_sitsOf_74 rfl ?_
    refine w_iald (pc' := 77) kd_172 (by (first | omega | (have := hrow (by omega); omega) | (have := hrow (by omega); have := hsp () (by omega); omega))) (by (first | omega | (have := hrow (by omega); omega) | (have := hrow (by omega); have := hsp () (by omega); omega))) dX12_sitsOf_76 rfl ?_
    show Wp _ _ _ _ _ _ [gI (D34 (σ0 127 m)), gI 5, gR 187]
    refine w_iload (pc' := 79) (by rfl) dX12_sitsOf_77 rfl ?_
    refine w_icmp_le (pc' := 82) (t := 104) dX12_sitsOf_79 rfl rfl (fun c_79 => ?_) (fun c_79 => ?_)
    · skip
      refine w_iconst (pc' := 105) (by decide) dX12_sitsOf_104 rfl ?_
      refine w_goto (pc' := 109) dX12_sitsOf_105 rfl ?_
      exact Wp.stI (by first | (exfalso; omega) | exact (gb_t (P := knP σ0 p (σ0 127 m) (σ0 128 m) t l) (by omega)).symm) hj_109
    · skip
      refine w_aload_n (pc' := 83) (i := 0) (by rfl) (by rfl) dX12_sitsOf_82 rfl ?_
      refine w_getS (pc' := 86) (q := 135) fg_X12_13 kd_133 sf_X12_4 gr_133_4 dX12_sitsOf_83 rfl ?_
      refine w_iload (pc' := 88) (by rfl) dX12_sitsOf_86 rfl ?_
      refine w_iald (pc' := 89) kd_135 (by (first | omega | (have := hrow (by omega); omega) | (have := hrow (by omega); have := hsp () (by omega); omega))) (by (first | omega | (have := hrow (by omega); omega) | (have := hrow (by omega); have := hsp () (by omega); omega))) dX12_sitsOf_88 rfl ?_
      show Wp _ _ _ _ _ _ [gI (σ34 135 (σ34 169 (σ0 127 m))), gI 5, gR 187]
      rw [(hq_34).rd (k := 135) (i := σ34 169 (σ0 127 m)) (.inr rfl)]
      rw [hI.e135 (i := σ34 169 (σ0 127 m)) (by (first | omega | (have := hrow (by omega); omega) | (have := hrow (by omega); have := hsp () (by omega); omega))) (by (first | omega | (have := hrow (by omega); omega) | (have := hrow (by omega); have := hsp () (by omega); omega)))]
      refine w_if_ne (pc' := 92) (t := 108) dX12_sitsOf_89 rfl rfl (fun c_89 => ?_) (fun c_89 => ?_)
      · skip
        refine w_iconst (pc' := 109) (by decide) dX12_sitsOf_108 rfl ?_
        exact Wp.stI (by first | (exfalso; omega) | exact (gb_f (P := knP σ0 p (σ0 127 m) (σ0 128 m) t l) (by omega)).symm) hj_109
      · skip
        refine w_aload_n (pc' := 93) (i := 0) (by rfl) (by rfl) dX12_sitsOf_92 rfl ?_
        refine w_getS (pc' := 96) (q := 172) fg_X12_136 kd_133 sf_X12_53 gr_133_53 dX12_sitsOf_93 rfl ?_
        refine w_iload (pc' := 98) (by rfl) dX12_sitsOf_96 rfl ?_
        refine w_iald (pc' := 99) kd_172 (by (first | omega | (have := hrow (by omega); omega) | (have := hrow (by omega); have := hsp () (by omega); omega))) (by (first | omega | (have := hrow (by omega); omega) | (have := hrow (by omega); have := hsp () (by omega); omega))) dX12_sitsOf_98 rfl ?_
        show Wp _ _ _ _ _ _ [gI (D34 (σ34 169 (σ0 127 m))), gI 5, gR 187]
        refine w_iload (pc' := 101) (by rfl) dX12_sitsOf_99 rfl ?_
        refine w_icmp_gt (pc' := 104) (t := 108) dX12_sitsOf_101 rfl rfl (fun c_101 => ?_) (fun c_101 => ?_)
        · skip
          refine w_iconst (pc' := 109) (by decide) dX12_sitsOf_108 rfl ?_
          exact Wp.stI (by first | (exfalso; omega) | exact (gb_f (P := knP σ0 p (σ0 127 m) (σ0 128 m) t l) (by omega)).symm) hj_109
        · skip
          refine w_iconst (pc' := 105) (by decide) dX12_sitsOf_104 rfl ?_
          refine w_goto (pc' := 109) dX12_sitsOf_105 rfl ?_
          exact Wp.stI (by first | (exfalso; omega) | exact (gb_t (P := knP σ0 p (σ0 127 m) (σ0 128 m) t l) (by omega)).symm) hj_109
theorem gkI_hm {σ : gH} {p f d t y : Int} : ∀ n : Nat, gkI (hm σ) p f d t y n = gkI σ p f d t y n
  | 0 => rfl
  | n + 1 => by
    show (if (n : Int) ≠ p ∧ σ 4 n = 0 ∧ DG σ p d t n ≤ y then (if gkI (hm σ) p f d t y n < SHR σ n f d t then SHR σ n f d t else gkI (hm σ) p f d t y n) else gkI (hm σ) p f d t y n) = (if (n : Int) ≠ p ∧ σ 4 n = 0 ∧ DG σ p d t n ≤ y then (if gkI σ p f d t y n < SHR σ n f d t then SHR σ n f d t else gkI σ p f d t y n) else gkI σ p f d t y n)
    rw [gkI_hm n]
theorem FS_hm {σ : gH} {p f d t l : Int} : FS (hm σ) p f d t l = FS σ p f d t l := by
  funext q
  unfold FS
  rw [gkI_hm]
  rfl
theorem SEAT_hm {σ : gH} {m p t : Int} : SEAT (hm σ) m p t = SEAT σ m p t := by
  have h : ∀ f d l, DUTY (hm σ) p f d t l = DUTY σ p f d t l := fun f d l => by
    unfold DUTY
    rw [FS_hm]
    rfl
  exact h _ _ _
theorem QN_hm {σ : gH} {m t : Int} (n : Nat) : QN (hm σ) m t n = QN σ m t n := sumI_congr fun i _ _ => by
  rw [SEAT_hm]
  rfl
theorem qo_isMatter {σ0 σ : gH} (hI : Inv σ0) (hq : lm σ = lm σ0) (x : Int) : Mt mX12_isMatter 0 [gR 133, gI x] σ (rE (gI (gb (0 ≤ x ∧ x < σ0 125 5))) σ) := by
  have e : σ 133 93 = σ0 125 5 := (lm_rd hq (.inr rfl)).trans hI.f93
  have k := mo_isMatter σ x
  rw [e] at k
  exact k
theorem SEAT_in {σ : gH} {m p t : Int} : 0 ≤ SEAT σ m p t ∧ SEAT σ m p t ≤ 2 := by
  unfold SEAT DUTY
  split
  · omega
  · split <;> omega
theorem x_sits {σ0 : gH} (hI : Inv σ0) (m p t : Int) : Mt mX11_sits 30 [gR 0, gI m, gI p, gI t] σ0 (fun v σ' => v = gI (if (0 ≤ m ∧ m < σ0 125 5) ∧ (0 ≤ p ∧ p < σ0 3 2) ∧ σ0 4 p = 0 then SEAT σ0 m p t else -1) ∧ QC σ0 σ') := by
  refine Mt.walk (ls := [gR 0, gI m, gI p, gI t]) pn_X11 rfl (fun _ _ h => by cases h.1) (Nat.le_of_ble_eq_true rfl) rfl ?_
  have hp := hI.f.hp
  have hp0 := hI.f.party.2.1
  refine w_aload_n (pc' := 1) (i := 0) (by rfl) (by rfl) dX11_sits_0 rfl ?_
  refine w_getS (pc' := 4) (q := 125) fg_X11_85 kd_0 sf_X11_13 gr_0_13 dX11_sits_1 rfl ?_
  refine w_iload_n (pc' := 5) (i := 1) (by rfl) (by rfl) dX11_sits_4 rfl ?_
  refine v_callVE (pc' := 8) (st' := [gI (gb (0 ≤ m ∧ m < σ0 125 5))]) (d' := 0) (av := [gI m]) mi_mX1_hasMatter lk_X11_227 rfl ci_X1 kd_125 rfl (Nat.le_of_ble_eq_true rfl) (Nat.le_of_ble_eq_true rfl) dX11_sits_5 rfl rfl (hmP (F := fun z => gI (gb (0 ≤ m ∧ m < z 125 5))) ((QC.refl hI).1) (fun _ => rfl) (k_hasMatter σ0 (hm_FA ((QC.refl hI).1) hI.1).1.mat.2.2.1 m)) ?_
  refine v_if_eqB (pc' := 11) (t := 22) dX11_sits_8 rfl rfl (fun c_8 => ?_) (fun c_8 => ?_)
  · skip
    refine w_iconst (pc' := 23) (by decide) dX11_sits_22 rfl ?_
    refine v_ireturn rfl dX11_sits_23 ?_
    exact ⟨by rw [if_neg (by omega)], QC.refl hI⟩
  · skip
    refine w_aload_n (pc' := 12) (i := 0) (by rfl) (by rfl) dX11_sits_11 rfl ?_
    refine w_getS (pc' := 15) (q := 3) fg_X11_21 kd_0 sf_X11_5 gr_0_5 dX11_sits_12 rfl ?_
    refine w_iload_n (pc' := 16) (i := 2) (by rfl) (by rfl) dX11_sits_15 rfl ?_
    refine v_callVE (pc' := 19) (st' := [gI (gb ((0 ≤ p ∧ p < (σ0 3 2)) ∧ (σ0 4 p) = 0))]) (d' := 1) (av := [gI p]) mi_mX8_isPerson lk_X11_132 rfl ci_X8 kd_3 rfl (Nat.le_of_ble_eq_true rfl) (Nat.le_of_ble_eq_true rfl) dX11_sits_16 rfl rfl (hmP (F := fun z => gI (gb ((0 ≤ p ∧ p < (z 3 2)) ∧ (z 4 p) = 0))) ((QC.refl hI).1) (fun _ => rfl) (pa_isPerson σ0 (hm_FA ((QC.refl hI).1) hI.1).1.hp p)) ?_
    refine v_if_neB (pc' := 22) (t := 24) dX11_sits_19 rfl rfl (fun c_19 => ?_) (fun c_19 => ?_)
    · skip
      refine w_aload_n (pc' := 25) (i := 0) (by rfl) (by rfl) dX11_sits_24 rfl ?_
      refine w_getS (pc' := 28) (q := 125) fg_X11_85 kd_0 sf_X11_13 gr_0_13 dX11_sits_25 rfl ?_
      refine w_iload_n (pc' := 29) (i := 1) (by rfl) (by rfl) dX11_sits_28 rfl ?_
      refine w_iload_n (pc' := 30) (i := 2) (by rfl) (by rfl) dX11_sits_29 rfl ?_
      refine w_iload_n (pc' := 31) (i := 3) (by rfl) (by rfl) dX11_sits_30 rfl ?_
      refine w_callV (pc' := 34) (d' := 11) (av := [gI m, gI p, gI t]) mi_mX1_dutyOf lk_X11_230 rfl ci_X1 kd_125 rfl (Nat.le_of_ble_eq_true rfl) (Nat.le_of_ble_eq_true rfl) dX11_sits_31 rfl (k_dutyOf hI (QC.refl hI) m p t (by omega) (by omega)) (fun v_31 σ31 q_31 => ?_)
      obtain ⟨rfl, hq_31, hk_31⟩ := q_31
      show Wp _ _ _ _ _ _ [gI (SEAT σ0 m p t)]
      refine v_ireturn rfl dX11_sits_34 ?_
      exact ⟨by rw [if_pos (by omega)], hq_31⟩
    · skip
      refine w_iconst (pc' := 23) (by decide) dX11_sits_22 rfl ?_
      refine v_ireturn rfl dX11_sits_23 ?_
      exact ⟨by rw [if_neg (by omega)], QC.refl hI⟩
theorem m_sits {σ0 : gH} (hI : Inv σ0) (m p t : Int) : Mt mX12_sits 30 [gR 133, gI m, gI p, gI t] σ0 (fun v σ' => v = gI (if (0 ≤ m ∧ m < σ0 125 5) ∧ (0 ≤ p ∧ p < σ0 3 2) ∧ σ0 4 p = 0 then SEAT σ0 m p t else -1) ∧ QM σ0 σ') := by
  refine Mt.walk (ls := [gR 133, gI m, gI p, gI t]) pn_X12 rfl (fun _ _ h => by cases h.1) (Nat.le_of_ble_eq_true rfl) rfl ?_
  have hp := hI.f.hp
  have hp0 := hI.f.party.2.1
  refine w_aload_n (pc' := 1) (i := 0) (by rfl) (by rfl) dX12_sits_0 rfl ?_
  refine w_iconst (pc' := 2) (by decide) dX12_sits_1 rfl ?_
  refine v_putI (pc' := 5) (ji := 0) rfl fp_X12_244 kd_133 sf_X12_0 dX12_sits_2 rfl ?_
  refine w_aload_n (pc' := 6) (i := 0) (by rfl) (by rfl) dX12_sits_5 rfl ?_
  refine w_iload_n (pc' := 7) (i := 1) (by rfl) (by rfl) dX12_sits_6 rfl ?_
  refine v_callVE (pc' := 10) (st' := [gI (gb (0 ≤ m ∧ m < σ0 125 5))]) (d' := 0) (av := [gI m]) mi_mX12_isMatter lk_X12_555 rfl ci_X12 kd_133 rfl (Nat.le_of_ble_eq_true rfl) (Nat.le_of_ble_eq_true rfl) dX12_sits_7 rfl rfl (qo_isMatter hI ((lm_up (k := 133) (i := 0) (v := 0) (by decide)).trans (QM.refl hI).1) m) ?_
  refine v_if_eqB (pc' := 13) (t := 31) dX12_sits_10 rfl rfl (fun c_10 => ?_) (fun c_10 => ?_)
  · skip
    refine w_iconst (pc' := 32) (by decide) dX12_sits_31 rfl ?_
    refine v_ireturn rfl dX12_sits_32 ?_
    first
      | exact ⟨by rw [if_pos (by omega)], hq_25⟩
      | exact ⟨by rw [if_neg (by omega)], QM.up (QM.refl hI) (by decide) (fun h => h)⟩
  · skip
    refine w_aload_n (pc' := 14) (i := 0) (by rfl) (by rfl) dX12_sits_13 rfl ?_
    refine w_iload_n (pc' := 15) (i := 2) (by rfl) (by rfl) dX12_sits_14 rfl ?_
    refine v_callVE (pc' := 18) (st' := [gI (gb ((0 ≤ p ∧ p < σ0 3 2) ∧ σ0 4 p = 0))]) (d' := 1) (av := [gI p]) mi_mX12_isPerson lk_X12_299 rfl ci_X12 kd_133 rfl (Nat.le_of_ble_eq_true rfl) (Nat.le_of_ble_eq_true rfl) dX12_sits_15 rfl rfl (qo_isPerson hI ((lm_up (k := 133) (i := 0) (v := 0) (by decide)).trans (QM.refl hI).1) p) ?_
    refine v_if_eqB (pc' := 21) (t := 31) dX12_sits_18 rfl rfl (fun c_18 => ?_) (fun c_18 => ?_)
    · skip
      refine w_iconst (pc' := 32) (by decide) dX12_sits_31 rfl ?_
      refine v_ireturn rfl dX12_sits_32 ?_
      first
        | exact ⟨by rw [if_pos (by omega)], hq_25⟩
        | exact ⟨by rw [if_neg (by omega)], QM.up (QM.refl hI) (by decide) (fun h => h)⟩
    · skip
      refine w_aload_n (pc' := 22) (i := 0) (by rfl) (by rfl) dX12_sits_21 rfl ?_
      refine w_iload_n (pc' := 23) (i := 1) (by rfl) (by rfl) dX12_sits_22 rfl ?_
      refine w_iload_n (pc' := 24) (i := 2) (by rfl) (by rfl) dX12_sits_23 rfl ?_
      refine w_iload_n (pc' := 25) (i := 3) (by rfl) (by rfl) dX12_sits_24 rfl ?_
      refine w_callV (pc' := 28) (d' := 4) (av := [gI m, gI p, gI t]) mi_mX12_sitsOf lk_X12_558 rfl ci_X12 kd_133 rfl (Nat.le_of_ble_eq_true rfl) (Nat.le_of_ble_eq_true rfl) dX12_sits_25 rfl (q_sitsOf hI (QM.up (k := 133) (i := 0) (v := 0) (QM.refl hI) (by decide) (fun h => h)) m p t (by omega) (by omega) rfl) (fun v_25 σ25 q_25 => ?_)
      obtain ⟨rfl, hq_25⟩ := q_25
      show Wp _ _ _ _ _ _ [gI (SEAT σ0 m p t)]
      refine w_goto (pc' := 32) dX12_sits_28 rfl ?_
      refine v_ireturn rfl dX12_sits_32 ?_
      first
        | exact ⟨by rw [if_pos (by omega)], hq_25⟩
        | exact ⟨by rw [if_neg (by omega)], QM.up (QM.refl hI) (by decide) (fun h => h)⟩
theorem ci_sits (m p t : Int) : CI Inv mX11_sits mX12_sits [gI m, gI p, gI t] := CI_query (fun σ0 => if (0 ≤ m ∧ m < σ0 125 5) ∧ (0 ≤ p ∧ p < σ0 3 2) ∧ σ0 4 p = 0 then SEAT σ0 m p t else -1) (fun σ0 hI => x_sits hI m p t) (fun σ0 hI => m_sits hI m p t) (fun σ => by show (if _ then SEAT (hm σ) m p t else -1) = _; rw [SEAT_hm]; rfl)
theorem x_quorum {σ0 : gH} (hI : Inv σ0) (m t : Int) : Mt mX11_quorum 30 [gR 0, gI m, gI t] σ0 (fun v σ' => v = gI (if 0 ≤ m ∧ m < σ0 125 5 then -(NU σ0 (LI σ0 (σ0 128 m) t) 4) + QN σ0 m t (σ0 125 2).toNat else -100) ∧ QC σ0 σ') := by
  refine Mt.walk (ls := [gR 0, gI m, gI t]) pn_X11 rfl (fun _ _ h => by cases h.1) (Nat.le_of_ble_eq_true rfl) rfl ?_
  have hp := hI.f.hp
  have hp0 := hI.f.party.2.1
  refine w_aload_n (pc' := 1) (i := 0) (by rfl) (by rfl) dX11_quorum_0 rfl ?_
  refine w_getS (pc' := 4) (q := 125) fg_X11_85 kd_0 sf_X11_13 gr_0_13 dX11_quorum_1 rfl ?_
  refine w_iload_n (pc' := 5) (i := 1) (by rfl) (by rfl) dX11_quorum_4 rfl ?_
  refine v_callVE (pc' := 8) (st' := [gI (gb (0 ≤ m ∧ m < σ0 125 5))]) (d' := 0) (av := [gI m]) mi_mX1_hasMatter lk_X11_227 rfl ci_X1 kd_125 rfl (Nat.le_of_ble_eq_true rfl) (Nat.le_of_ble_eq_true rfl) dX11_quorum_5 rfl rfl (hmP (F := fun z => gI (gb (0 ≤ m ∧ m < z 125 5))) ((QC.refl hI).1) (fun _ => rfl) (k_hasMatter σ0 (hm_FA ((QC.refl hI).1) hI.1).1.mat.2.2.1 m)) ?_
  refine v_if_eqB (pc' := 11) (t := 23) dX11_quorum_8 rfl rfl (fun c_8 => ?_) (fun c_8 => ?_)
  · skip
    refine w_bipush (pc' := 25) (by decide) (by decide) dX11_quorum_23 rfl ?_
    refine v_ireturn rfl dX11_quorum_25 ?_
    first
      | exact ⟨by rw [if_pos (by omega)], hq_17⟩
      | exact ⟨by rw [if_neg (by omega)], QC.refl hI⟩
  · skip
    refine w_aload_n (pc' := 12) (i := 0) (by rfl) (by rfl) dX11_quorum_11 rfl ?_
    refine w_getS (pc' := 15) (q := 125) fg_X11_85 kd_0 sf_X11_13 gr_0_13 dX11_quorum_12 rfl ?_
    refine w_iload_n (pc' := 16) (i := 1) (by rfl) (by rfl) dX11_quorum_15 rfl ?_
    refine w_iload_n (pc' := 17) (i := 2) (by rfl) (by rfl) dX11_quorum_16 rfl ?_
    refine w_callV (pc' := 20) (d' := 11) (av := [gI m, gI t]) mi_mX1_quorumOf lk_X11_233 rfl ci_X1 kd_125 rfl (Nat.le_of_ble_eq_true rfl) (Nat.le_of_ble_eq_true rfl) dX11_quorum_17 rfl (k_quorumOf hI (QC.refl hI) m t (by omega)) (fun v_17 σ17 q_17 => ?_)
    obtain ⟨rfl, hq_17⟩ := q_17
    show Wp _ _ _ _ _ _ [gI (-(NU σ0 (LI σ0 (σ0 128 m) t) 4) + QN σ0 m t (σ0 125 2).toNat)]
    refine w_goto (pc' := 25) dX11_quorum_20 rfl ?_
    refine v_ireturn rfl dX11_quorum_25 ?_
    first
      | exact ⟨by rw [if_pos (by omega)], hq_17⟩
      | exact ⟨by rw [if_neg (by omega)], QC.refl hI⟩
theorem m_quorum {σ0 : gH} (hI : Inv σ0) (m t : Int) : Mt mX12_quorum 30 [gR 133, gI m, gI t] σ0 (fun v σ' => v = gI (if 0 ≤ m ∧ m < σ0 125 5 then -(NU σ0 (LI σ0 (σ0 128 m) t) 4) + QN σ0 m t (σ0 125 2).toNat else -100) ∧ QM σ0 σ') := by
  refine Mt.walk (ls := [gR 133, gI m, gI t, gX 1, gX 1]) pn_X12 rfl (fun _ _ h => by cases h.1) (Nat.le_of_ble_eq_true rfl) rfl ?_
  have hp := hI.f.hp
  have hp0 := hI.f.party.2.1
  have hmn := hI.f.mem.2.2.1
  have hmn0 := hI.f.mem.2.1
  have hmt := hI.f.mat.2.2.1
  have h4 : 0 ≤ NU σ0 (LI σ0 (σ0 128 m) t) 4 ∧ NU σ0 (LI σ0 (σ0 128 m) t) 4 ≤ 12 := by
    have k := (LI_law hI (σ0 128 m) t).num.2.2.2.2.1
    omega
  have hli := LI_in hI (σ0 128 m) t
  refine w_aload_n (pc' := 1) (i := 0) (by rfl) (by rfl) dX12_quorum_0 rfl ?_
  refine w_iconst (pc' := 2) (by decide) dX12_quorum_1 rfl ?_
  refine v_putI (pc' := 5) (ji := 0) rfl fp_X12_244 kd_133 sf_X12_0 dX12_quorum_2 rfl ?_
  refine w_aload_n (pc' := 6) (i := 0) (by rfl) (by rfl) dX12_quorum_5 rfl ?_
  refine w_iload_n (pc' := 7) (i := 1) (by rfl) (by rfl) dX12_quorum_6 rfl ?_
  refine v_callVE (pc' := 10) (st' := [gI (gb (0 ≤ m ∧ m < σ0 125 5))]) (d' := 0) (av := [gI m]) mi_mX12_isMatter lk_X12_555 rfl ci_X12 kd_133 rfl (Nat.le_of_ble_eq_true rfl) (Nat.le_of_ble_eq_true rfl) dX12_quorum_7 rfl rfl (qo_isMatter hI ((lm_up (k := 133) (i := 0) (v := 0) (by decide)).trans (QM.refl hI).1) m) ?_
  refine v_if_neB (pc' := 13) (t := 16) dX12_quorum_10 rfl rfl (fun c_10 => ?_) (fun c_10 => ?_)
  · skip
    refine w_iconst (pc' := 17) (by decide) dX12_quorum_16 rfl ?_
    refine w_istore_n (pc' := 18) (i := 3) (ls' := [gR 133, gI m, gI t, gI 0, gX 1]) (by rfl) (by decide) (by rfl) dX12_quorum_17 rfl ?_
    refine w_iconst (pc' := 19) (by decide) dX12_quorum_18 rfl ?_
    refine w_istore (pc' := 21) (ls' := [gR 133, gI m, gI t, gI 0, gI 0]) (by decide) (by rfl) dX12_quorum_19 rfl ?_
    have hl_21 : ∀ (mm : Nat) (i n : Int) (σv : gH), (σ0 125 2 - i).toNat = mm → (0 ≤ i) → (i ≤ σ0 125 2) → (n = QN σ0 m t i.toNat) → (QM σ0 σv) → Wp mX12_quorum 30 (fun v σ' => v = gI (if 0 ≤ m ∧ m < σ0 125 5 then -(NU σ0 (LI σ0 (σ0 128 m) t) 4) + QN σ0 m t (σ0 125 2).toNat else -100) ∧ QM σ0 σ') σv 21 [gR 133, gI m, gI t, gI n, gI i] [] := by
      intro m_21
      induction m_21 using Nat.strongRecOn with
      | _ m_21 ih_21 =>
        intro i n σv hmeas_21 i0 i1 hn hqv
        have hrow := fun h : i < σ0 125 2 => mem_row hI i0 h
        have es := QN_s (σ := σ0) (m := m) (t := t) i0
        have qi := QN_in (σ := σ0) (m := m) (t := t) i.toNat
        have hse := SEAT_in (σ := σ0) (m := m) (p := σ0 126 i) (t := t)
        refine w_iload (pc' := 23) (by rfl) dX12_quorum_21 rfl ?_
        refine w_aload_n (pc' := 24) (i := 0) (by rfl) (by rfl) dX12_quorum_23 rfl ?_
        refine v_getI (pc' := 27) (ji := 92) rfl fg_X12_543 kd_133 dX12_quorum_24 rfl ?_
        rw [(hqv).rd (k := 133) (i := 92) (.inr rfl)]
        rw [hI.f92]
        refine w_icmp_ge (pc' := 30) (t := 56) dX12_quorum_27 rfl rfl (fun c_27 => ?_) (fun c_27 => ?_)
        · skip
          refine w_iload_n (pc' := 57) (i := 3) (by rfl) (by rfl) dX12_quorum_56 rfl ?_
          refine w_aload_n (pc' := 58) (i := 0) (by rfl) (by rfl) dX12_quorum_57 rfl ?_
          refine w_aload_n (pc' := 59) (i := 0) (by rfl) (by rfl) dX12_quorum_58 rfl ?_
          refine w_aload_n (pc' := 60) (i := 0) (by rfl) (by rfl) dX12_quorum_59 rfl ?_
          refine w_getS (pc' := 63) (q := 191) fg_X12_193 kd_133 sf_X12_91 gr_133_91 dX12_quorum_60 rfl ?_
          refine w_iload_n (pc' := 64) (i := 1) (by rfl) (by rfl) dX12_quorum_63 rfl ?_
          refine w_iald (pc' := 65) kd_191 (by (first | omega | (have := hrow (by omega); omega))) (by (first | omega | (have := hrow (by omega); omega))) dX12_quorum_64 rfl ?_
          rw [(hqv).rd (k := 191) (i := m) (.inr rfl)]
          rw [hI.e191 (i := m) (by (first | omega | (have := hrow (by omega); omega))) (by (first | omega | (have := hrow (by omega); omega)))]
          refine w_iload_n (pc' := 66) (i := 2) (by rfl) (by rfl) dX12_quorum_65 rfl ?_
          refine v_callVE (pc' := 69) (st' := [gI (LI σ0 (σ0 128 m) t), gR 133, gI n]) (d' := 0) (av := [gI (σ0 128 m), gI t]) mi_mX12_lawFor lk_X12_512 rfl ci_X12 kd_133 rfl (Nat.le_of_ble_eq_true rfl) (Nat.le_of_ble_eq_true rfl) dX12_quorum_66 rfl rfl (q_lawFor hI hqv (σ0 128 m) t) ?_
          refine w_iconst (pc' := 70) (by decide) dX12_quorum_69 rfl ?_
          refine v_callVE (pc' := 73) (st' := [gI (NU σ0 (LI σ0 (σ0 128 m) t) 4), gI n]) (d' := 0) (av := [gI (LI σ0 (σ0 128 m) t), gI 4]) mi_mX12_numberOf lk_X12_503 rfl ci_X12 kd_133 rfl (Nat.le_of_ble_eq_true rfl) (Nat.le_of_ble_eq_true rfl) dX12_quorum_70 rfl rfl (q_numberOf hI hqv.1 (LI σ0 (σ0 128 m) t) 4 (by omega) (by omega)) ?_
          refine v_isub (pc' := 74) (by (first | omega | (have := hrow (by omega); omega))) dX12_quorum_73 rfl ?_
          refine v_ireturn rfl dX12_quorum_74 ?_
          exact ⟨by rw [if_pos (by omega), hn, show i = σ0 125 2 by omega]; exact congrArg gI (by omega), hqv⟩
        · skip
          refine w_aload_n (pc' := 31) (i := 0) (by rfl) (by rfl) dX12_quorum_30 rfl ?_
          refine w_iload_n (pc' := 32) (i := 1) (by rfl) (by rfl) dX12_quorum_31 rfl ?_
          refine w_aload_n (pc' := 33) (i := 0) (by rfl) (by rfl) dX12_quorum_32 rfl ?_
          refine w_getS (pc' := 36) (q := 189) fg_X12_187 kd_133 sf_X12_89 gr_133_89 dX12_quorum_33 rfl ?_
          refine w_iload (pc' := 38) (by rfl) dX12_quorum_36 rfl ?_
          refine w_iald (pc' := 39) kd_189 (by (first | omega | (have := hrow (by omega); omega))) (by (first | omega | (have := hrow (by omega); omega))) dX12_quorum_38 rfl ?_
          rw [(hqv).rd (k := 189) (i := i) (.inr rfl)]
          rw [hI.e189 (i := i) (by (first | omega | (have := hrow (by omega); omega))) (by (first | omega | (have := hrow (by omega); omega)))]
          refine w_iload_n (pc' := 40) (i := 2) (by rfl) (by rfl) dX12_quorum_39 rfl ?_
          refine w_callV (pc' := 43) (d' := 4) (av := [gI m, gI (σ0 126 i), gI t]) mi_mX12_sitsOf lk_X12_558 rfl ci_X12 kd_133 rfl (Nat.le_of_ble_eq_true rfl) (Nat.le_of_ble_eq_true rfl) dX12_quorum_40 rfl (q_sitsOf hI hqv m (σ0 126 i) t (by omega) (by omega) rfl) (fun v_40 σ40 q_40 => ?_)
          obtain ⟨rfl, hq_40⟩ := q_40
          show Wp _ _ _ _ _ _ [gI (SEAT σ0 m (σ0 126 i) t)]
          refine w_iconst (pc' := 44) (by decide) dX12_quorum_43 rfl ?_
          refine w_icmp_ge (pc' := 47) (t := 50) dX12_quorum_44 rfl rfl (fun c_44 => ?_) (fun c_44 => ?_)
          · skip
            refine v_iinc (pc' := 53) (x := i) (ls' := [gR 133, gI m, gI t, gI n, gI (i + 1)]) (by (first | omega | (have := hrow (by omega); omega))) (by decide) (by rfl) (by rfl) dX12_quorum_50 rfl ?_
            refine w_goto (pc' := 21) dX12_quorum_53 rfl ?_
            exact ih_21 _ (by omega) (i + 1) n σ40 rfl (by omega) (by omega) (by rw [es]; first | (rw [if_pos (by omega)]; omega) | (rw [if_neg (by omega)]; omega)) (by exact hq_40)
          · skip
            refine v_iinc (pc' := 50) (x := n) (ls' := [gR 133, gI m, gI t, gI (n + 1), gI i]) (by (first | omega | (have := hrow (by omega); omega))) (by decide) (by rfl) (by rfl) dX12_quorum_47 rfl ?_
            refine v_iinc (pc' := 53) (x := i) (ls' := [gR 133, gI m, gI t, gI (n + 1), gI (i + 1)]) (by (first | omega | (have := hrow (by omega); omega))) (by decide) (by rfl) (by rfl) dX12_quorum_50 rfl ?_
            refine w_goto (pc' := 21) dX12_quorum_53 rfl ?_
            exact ih_21 _ (by omega) (i + 1) (n + 1) σ40 rfl (by omega) (by omega) (by rw [es]; first | (rw [if_pos (by omega)]; omega) | (rw [if_neg (by omega)]; omega)) (by exact hq_40)
    exact hl_21 _ 0 0 (gUp σ0 133 0 0) rfl (by omega) (by omega) (by rfl) (by exact QM.up (QM.refl hI) (by decide) (fun h => h))
  · skip
    refine w_bipush (pc' := 15) (by decide) (by decide) dX12_quorum_13 rfl ?_
    refine v_ireturn rfl dX12_quorum_15 ?_
    exact ⟨by rw [if_neg (by omega)], QM.up (QM.refl hI) (by decide) (fun h => h)⟩
theorem ci_quorum (m t : Int) : CI Inv mX11_quorum mX12_quorum [gI m, gI t] := CI_query (fun σ0 => if 0 ≤ m ∧ m < σ0 125 5 then -(NU σ0 (LI σ0 (σ0 128 m) t) 4) + QN σ0 m t (σ0 125 2).toNat else -100) (fun σ0 hI => x_quorum hI m t) (fun σ0 hI => m_quorum hI m t) (fun σ => by show (if _ then _ + QN (hm σ) m t _ else -100) = _; rw [QN_hm]; rfl)
