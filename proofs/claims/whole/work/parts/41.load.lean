/-! loading a day's arrows, and the heads: the class (gen/mod_load.py) -/
theorem load_end {σ0 σ : gH} (hI : Inv σ0) (hq : QC σ0 σ) {d t : Int} {S T P : Int → Int} (hA : ARW S T P (AR σ0 d t)) : QC σ0 (gUr (gUr (gUr (gUp (gUp (gUp (gUp σ 14 5 d) 14 6 t) 14 7 (σ0 15 6)) 14 12 0) 23 S) 24 T) 25 P) := by
  have q0 : hm (gUp (gUp (gUp (gUp σ 14 5 d) 14 6 t) 14 7 (σ0 15 6)) 14 12 0) = hm σ0 := (hm_up (hm_nfC 14 (by decide) _)).trans ((hm_up (hm_nfC 14 (by decide) _)).trans ((hm_up (hm_nfC 14 (by decide) _)).trans ((hm_up (hm_nfC 14 (by decide) _)).trans hq.1)))
  have q1 := (hm_ur (f := P) (hm_nfC 25 (by decide))).trans ((hm_ur (f := T) (hm_nfC 24 (by decide))).trans ((hm_ur (f := S) (hm_nfC 23 (by decide))).trans q0))
  refine ⟨q1, hq.2.1, ?_, fun _ => ⟨?_, fun h => absurd rfl h⟩⟩
  · show σ0 15 6 ≤ σ 15 6
    rw [hq.rd (k := 15) (i := 6) (.inr rfl)]
    exact Int.le_refl _
  · show ARW S T P (AR (gUr (gUr (gUr (gUp (gUp (gUp (gUp σ 14 5 d) 14 6 t) 14 7 (σ0 15 6)) 14 12 0) 23 S) 24 T) 25 P) d t)
    rw [AR_hm q1]
    exact hA
set_option maxHeartbeats 4000000 in
theorem k_load {σ0 σ : gH} (hI : Inv σ0) (hq : QC σ0 σ) (d t : Int) : Mt mX7_load 1 [gR 14, gI d, gI t] σ (fun v σ' => v = gX 1 ∧ QC σ0 σ' ∧ Kp 34 σ σ' ∧ (∀ k, 26 ≤ k → k ≤ 33 → σ' k = σ k) ∧ σ' 14 7 = σ0 15 6 ∧ σ' 14 5 = d ∧ σ' 14 6 = t ∧ ARW (σ' 23) (σ' 24) (σ' 25) (AR σ0 d t)) := by
  refine Mt.walk (ls := [gR 14, gI d, gI t, gX 1, gX 1, gX 1, gX 1, gX 1, gX 1]) pn_X7 rfl (fun _ _ h => by cases h.1) (Nat.le_of_ble_eq_true rfl) rfl ?_
  have hp := hI.f.hp
  have hn := hI.f.own.2.2.1
  have hn0 := hI.f.own.2.1
  refine w_aload_n (pc' := 1) (i := 0) (by rfl) (by rfl) dX7_load_0 rfl ?_
  refine w_getS (pc' := 4) (q := 15) fg_X7_14 kd_14 sf_X7_0 gr_14_0 dX7_load_1 rfl ?_
  refine v_callVE (pc' := 7) (st' := [gI (σ0 15 6)]) (d' := 0) (av := []) mi_mX9_total lk_X7_53 rfl ci_X9 kd_15 rfl (Nat.le_of_ble_eq_true rfl) (Nat.le_of_ble_eq_true rfl) dX7_load_4 rfl rfl (hmP (F := fun z => gI (z 15 6)) (hq.1) (fun _ => rfl) (sp_total sp_15 σ)) ?_
  refine w_istore_n (pc' := 8) (i := 3) (ls' := [gR 14, gI d, gI t, gI (σ0 15 6), gX 1, gX 1, gX 1, gX 1, gX 1]) (by rfl) (by decide) (by rfl) dX7_load_7 rfl ?_
  have hj_33 : Wp mX7_load 1 (fun v σ' => v = gX 1 ∧ QC σ0 σ' ∧ Kp 34 σ σ' ∧ (∀ k, 26 ≤ k → k ≤ 33 → σ' k = σ k) ∧ σ' 14 7 = σ0 15 6 ∧ σ' 14 5 = d ∧ σ' 14 6 = t ∧ ARW (σ' 23) (σ' 24) (σ' 25) (AR σ0 d t)) σ 33 [gR 14, gI d, gI t, gI (σ0 15 6), gX 1, gX 1, gX 1, gX 1, gX 1] [] := by
    refine w_aload_n (pc' := 34) (i := 0) (by rfl) (by rfl) dX7_load_33 rfl ?_
    refine w_iload_n (pc' := 35) (i := 1) (by rfl) (by rfl) dX7_load_34 rfl ?_
    refine v_putI (pc' := 38) (ji := 5) rfl fp_X7_33 kd_14 sf_X7_5 dX7_load_35 rfl ?_
    refine w_aload_n (pc' := 39) (i := 0) (by rfl) (by rfl) dX7_load_38 rfl ?_
    refine w_iload_n (pc' := 40) (i := 2) (by rfl) (by rfl) dX7_load_39 rfl ?_
    refine v_putI (pc' := 43) (ji := 6) rfl fp_X7_85 kd_14 sf_X7_6 dX7_load_40 rfl ?_
    refine w_aload_n (pc' := 44) (i := 0) (by rfl) (by rfl) dX7_load_43 rfl ?_
    refine w_iload_n (pc' := 45) (i := 3) (by rfl) (by rfl) dX7_load_44 rfl ?_
    refine v_putI (pc' := 48) (ji := 7) rfl fp_X7_37 kd_14 sf_X7_7 dX7_load_45 rfl ?_
    refine w_aload_n (pc' := 49) (i := 0) (by rfl) (by rfl) dX7_load_48 rfl ?_
    refine w_iconst (pc' := 50) (by decide) dX7_load_49 rfl ?_
    refine v_putZ (pc' := 53) (ji := 12) (.inl rfl) rfl fp_X7_88 kd_14 sf_X7_12 dX7_load_50 rfl ?_
    refine w_iconst (pc' := 54) (by decide) dX7_load_53 rfl ?_
    refine w_istore (pc' := 56) (ls' := [gR 14, gI d, gI t, gI (σ0 15 6), gI 0, gX 1, gX 1, gX 1, gX 1]) (by decide) (by rfl) dX7_load_54 rfl ?_
    refine w_iconst (pc' := 57) (by decide) dX7_load_56 rfl ?_
    refine w_istore (pc' := 59) (ls' := [gR 14, gI d, gI t, gI (σ0 15 6), gI 0, gI 0, gX 1, gX 1, gX 1]) (by decide) (by rfl) dX7_load_57 rfl ?_
    refine w_aload_n (pc' := 60) (i := 0) (by rfl) (by rfl) dX7_load_59 rfl ?_
    refine w_getS (pc' := 63) (q := 23) fg_X7_24 kd_14 sf_X7_2 gr_14_2 dX7_load_60 rfl ?_
    refine w_iconst (pc' := 64) (by decide) dX7_load_63 rfl ?_
    refine w_iconst (pc' := 65) (by decide) dX7_load_64 rfl ?_
    refine w_iast (pc' := 66) kd_23 (by omega) (by omega) dX7_load_65 rfl ?_
    refine w_iconst (pc' := 67) (by decide) dX7_load_66 rfl ?_
    refine w_istore (pc' := 69) (ls' := [gR 14, gI d, gI t, gI (σ0 15 6), gI 0, gI 0, gI 0, gX 1, gX 1]) (by decide) (by rfl) dX7_load_67 rfl ?_
    have hl_69 : ∀ (mm : Nat) (i w m : Int) (S T P : Int → Int), (σ0 15 6 - i).toNat = mm → (LDI σ0 d t i w m S T P) → Wp mX7_load 1 (fun v σ' => v = gX 1 ∧ QC σ0 σ' ∧ Kp 34 σ σ' ∧ (∀ k, 26 ≤ k → k ≤ 33 → σ' k = σ k) ∧ σ' 14 7 = σ0 15 6 ∧ σ' 14 5 = d ∧ σ' 14 6 = t ∧ ARW (σ' 23) (σ' 24) (σ' 25) (AR σ0 d t)) (gUr (gUr (gUr (gUp (gUp (gUp (gUp σ 14 5 d) 14 6 t) 14 7 (σ0 15 6)) 14 12 0) 23 S) 24 T) 25 P) 69 [gR 14, gI d, gI t, gI (σ0 15 6), gI w, gI m, gI i, gX 1, gX 1] [] := by
      intro m_69
      induction m_69 using Nat.strongRecOn with
      | _ m_69 ih_69 =>
        intro i w m S T P hmeas_69 hl
        have hp := hI.f.hp
        have hn := hI.f.own.2.2.1
        have hn0 := hI.f.own.2.1
        have hl0 := hl.1
        have hl1 := hl.2.1
        have hm0 := hl.2.2.2.2.1
        have hm1 := hl.2.2.2.2.2.1
        have hr : i < σ0 15 6 → (0 ≤ σ0 22 i ∧ σ0 22 i < σ0 15 6) ∧ (0 ≤ σ0 16 (σ0 22 i) ∧ σ0 16 (σ0 22 i) < 60) ∧ (0 ≤ σ0 17 (σ0 22 i) ∧ σ0 17 (σ0 22 i) < 60) ∧ 1 ≤ σ0 18 (σ0 22 i) ∧ σ0 18 (σ0 22 i) ≤ 10000 := fun h => by
          have k := hI.ord.1 i hl.1 h
          have k2 := own_row hI k.1 k.2
          omega
        refine w_iload (pc' := 71) (by rfl) dX7_load_69 rfl ?_
        refine w_iload_n (pc' := 72) (i := 3) (by rfl) (by rfl) dX7_load_71 rfl ?_
        refine w_icmp_ge (pc' := 75) (t := 260) dX7_load_72 rfl rfl (fun c_72 => ?_) (fun c_72 => ?_)
        · skip
          have hl_260 : ∀ (mm : Nat) (w3 : Int) (S3 : Int → Int), (60 - w3).toNat = mm → (0 ≤ w3) → (w3 ≤ 60) → (ARW (vS S3 w3 m) T P (AP σ0 d t (σ0 15 6))) → Wp mX7_load 1 (fun v σ' => v = gX 1 ∧ QC σ0 σ' ∧ Kp 34 σ σ' ∧ (∀ k, 26 ≤ k → k ≤ 33 → σ' k = σ k) ∧ σ' 14 7 = σ0 15 6 ∧ σ' 14 5 = d ∧ σ' 14 6 = t ∧ ARW (σ' 23) (σ' 24) (σ' 25) (AR σ0 d t)) (gUr (gUr (gUr (gUp (gUp (gUp (gUp σ 14 5 d) 14 6 t) 14 7 (σ0 15 6)) 14 12 0) 23 S3) 24 T) 25 P) 260 [gR 14, gI d, gI t, gI (σ0 15 6), gI w3, gI m, gI i, gX 1, gX 1] [] := by
            intro m_260
            induction m_260 using Nat.strongRecOn with
            | _ m_260 ih_260 =>
              intro w3 S3 hmeas_260 hw0 hw1 hk
              refine w_iload (pc' := 262) (by rfl) dX7_load_260 rfl ?_
              refine w_bipush (pc' := 264) (by decide) (by decide) dX7_load_262 rfl ?_
              refine w_icmp_ge (pc' := 267) (t := 282) dX7_load_264 rfl rfl (fun c_264 => ?_) (fun c_264 => ?_)
              · skip
                refine w_return rfl dX7_load_282 ?_
                have hA := ARW_fin hI (by omega) hk
                refine ⟨rfl, load_end hI hq hA, (((((((Kp.refl.up (by decide)).up (by decide)).up (by decide)).up (by decide)).ur (by decide)).ur (by decide)).ur (by decide)), fun k k0 k1 => ?_, rfl, rfl, rfl, hA⟩
                unfold gUr gUp gUr
                simp only [if_neg (show k ≠ 23 by omega), if_neg (show k ≠ 24 by omega), if_neg (show k ≠ 25 by omega), if_neg (show k ≠ 14 by omega)]
              · skip
                refine v_iinc (pc' := 270) (x := w3) (ls' := [gR 14, gI d, gI t, gI (σ0 15 6), gI (w3 + 1), gI m, gI i, gX 1, gX 1]) (by omega) (by decide) (by rfl) (by rfl) dX7_load_267 rfl ?_
                refine w_aload_n (pc' := 271) (i := 0) (by rfl) (by rfl) dX7_load_270 rfl ?_
                refine w_getS (pc' := 274) (q := 23) fg_X7_24 kd_14 sf_X7_2 gr_14_2 dX7_load_271 rfl ?_
                refine w_iload (pc' := 276) (by rfl) dX7_load_274 rfl ?_
                refine w_iload (pc' := 278) (by rfl) dX7_load_276 rfl ?_
                refine w_iast (pc' := 279) kd_23 (by omega) (by omega) dX7_load_278 rfl ?_
                refine Wp.heq (σ' := gUr (gUr (gUr (gUp (gUp (gUp (gUp σ 14 5 d) 14 6 t) 14 7 (σ0 15 6)) 14 12 0) 23 (updI S3 (w3 + 1) m)) 24 T) 25 P) ((gUp_cr (by decide)).trans (congrArg (fun z => gUr z 25 P) ((gUp_cr (by decide)).trans (congrArg (fun z => gUr z 24 T) gUp_row)))) ?_
                refine w_goto (pc' := 260) dX7_load_279 rfl ?_
                exact ih_260 _ (by omega) (w3 + 1) (updI S3 (w3 + 1) m) rfl (by omega) (by omega) (by rw [vS_step]; exact hk)
          exact hl_260 _ w S rfl (by exact hl.2.2.1) (by have := hl.2.2.2.1; omega) (by have e : i = σ0 15 6 := (by omega); rw [e] at hl; exact hl.2.2.2.2.2.2.1)
        · skip
          refine w_iload (pc' := 77) (by rfl) dX7_load_75 rfl ?_
          refine w_sipush (pc' := 80) (by decide) (by decide) dX7_load_77 rfl ?_
          refine w_icmp_ge (pc' := 83) (t := 260) dX7_load_80 rfl rfl (fun c_80 => ?_) (fun c_80 => ?_)
          · skip
            have hl_260 : ∀ (mm : Nat) (w3 : Int) (S3 : Int → Int), (60 - w3).toNat = mm → (0 ≤ w3) → (w3 ≤ 60) → (ARW (vS S3 w3 m) T P (AP σ0 d t (σ0 15 6))) → Wp mX7_load 1 (fun v σ' => v = gX 1 ∧ QC σ0 σ' ∧ Kp 34 σ σ' ∧ (∀ k, 26 ≤ k → k ≤ 33 → σ' k = σ k) ∧ σ' 14 7 = σ0 15 6 ∧ σ' 14 5 = d ∧ σ' 14 6 = t ∧ ARW (σ' 23) (σ' 24) (σ' 25) (AR σ0 d t)) (gUr (gUr (gUr (gUp (gUp (gUp (gUp σ 14 5 d) 14 6 t) 14 7 (σ0 15 6)) 14 12 0) 23 S3) 24 T) 25 P) 260 [gR 14, gI d, gI t, gI (σ0 15 6), gI w3, gI m, gI i, gX 1, gX 1] [] := by
              intro m_260
              induction m_260 using Nat.strongRecOn with
              | _ m_260 ih_260 =>
                intro w3 S3 hmeas_260 hw0 hw1 hk
                refine w_iload (pc' := 262) (by rfl) dX7_load_260 rfl ?_
                refine w_bipush (pc' := 264) (by decide) (by decide) dX7_load_262 rfl ?_
                refine w_icmp_ge (pc' := 267) (t := 282) dX7_load_264 rfl rfl (fun c_264 => ?_) (fun c_264 => ?_)
                · skip
                  refine w_return rfl dX7_load_282 ?_
                  have hA := ARW_fin hI (by omega) hk
                  refine ⟨rfl, load_end hI hq hA, (((((((Kp.refl.up (by decide)).up (by decide)).up (by decide)).up (by decide)).ur (by decide)).ur (by decide)).ur (by decide)), fun k k0 k1 => ?_, rfl, rfl, rfl, hA⟩
                  unfold gUr gUp gUr
                  simp only [if_neg (show k ≠ 23 by omega), if_neg (show k ≠ 24 by omega), if_neg (show k ≠ 25 by omega), if_neg (show k ≠ 14 by omega)]
                · skip
                  refine v_iinc (pc' := 270) (x := w3) (ls' := [gR 14, gI d, gI t, gI (σ0 15 6), gI (w3 + 1), gI m, gI i, gX 1, gX 1]) (by omega) (by decide) (by rfl) (by rfl) dX7_load_267 rfl ?_
                  refine w_aload_n (pc' := 271) (i := 0) (by rfl) (by rfl) dX7_load_270 rfl ?_
                  refine w_getS (pc' := 274) (q := 23) fg_X7_24 kd_14 sf_X7_2 gr_14_2 dX7_load_271 rfl ?_
                  refine w_iload (pc' := 276) (by rfl) dX7_load_274 rfl ?_
                  refine w_iload (pc' := 278) (by rfl) dX7_load_276 rfl ?_
                  refine w_iast (pc' := 279) kd_23 (by omega) (by omega) dX7_load_278 rfl ?_
                  refine Wp.heq (σ' := gUr (gUr (gUr (gUp (gUp (gUp (gUp σ 14 5 d) 14 6 t) 14 7 (σ0 15 6)) 14 12 0) 23 (updI S3 (w3 + 1) m)) 24 T) 25 P) ((gUp_cr (by decide)).trans (congrArg (fun z => gUr z 25 P) ((gUp_cr (by decide)).trans (congrArg (fun z => gUr z 24 T) gUp_row)))) ?_
                  refine w_goto (pc' := 260) dX7_load_279 rfl ?_
                  exact ih_260 _ (by omega) (w3 + 1) (updI S3 (w3 + 1) m) rfl (by omega) (by omega) (by rw [vS_step]; exact hk)
            exact hl_260 _ w S rfl (by exact hl.2.2.1) (by have := hl.2.2.2.1; omega) (by have e : i = σ0 15 6 := (by omega); rw [e] at hl; exact hl.2.2.2.2.2.2.1)
          · skip
            refine w_aload_n (pc' := 84) (i := 0) (by rfl) (by rfl) dX7_load_83 rfl ?_
            refine w_getS (pc' := 87) (q := 22) fg_X7_20 kd_14 sf_X7_1 gr_14_1 dX7_load_84 rfl ?_
            refine w_iload (pc' := 89) (by rfl) dX7_load_87 rfl ?_
            refine w_iald (pc' := 90) kd_22 (by omega) (by omega) dX7_load_89 rfl ?_
            show Wp _ _ _ _ _ _ [gI (σ 22 i)]
            rw [(hq).rd (k := 22) (i := i) (.inr rfl)]
            refine w_istore (pc' := 92) (ls' := [gR 14, gI d, gI t, gI (σ0 15 6), gI w, gI m, gI i, gI (σ0 22 i), gX 1]) (by decide) (by rfl) dX7_load_90 rfl ?_
            refine w_aload_n (pc' := 93) (i := 0) (by rfl) (by rfl) dX7_load_92 rfl ?_
            refine w_getS (pc' := 96) (q := 15) fg_X7_14 kd_14 sf_X7_0 gr_14_0 dX7_load_93 rfl ?_
            refine w_iload (pc' := 98) (by rfl) dX7_load_96 rfl ?_
            refine w_iload_n (pc' := 99) (i := 2) (by rfl) (by rfl) dX7_load_98 rfl ?_
            refine v_callVE (pc' := 102) (st' := [gI (gb (0 ≤ (σ0 22 i) ∧ (σ0 22 i) < σ0 15 6 ∧ σ0 21 (σ0 22 i) ≤ t))]) (d' := 0) (av := [gI (σ0 22 i), gI t]) mi_mX9_isKnown lk_X7_92 rfl ci_X9 kd_15 rfl (Nat.le_of_ble_eq_true rfl) (Nat.le_of_ble_eq_true rfl) dX7_load_99 rfl rfl (hmP (F := fun z => gI (gb (0 ≤ (σ0 22 i) ∧ (σ0 22 i) < z 15 6 ∧ z 21 (σ0 22 i) ≤ t))) (((hm_ur (hm_nfC 25 (by decide))).trans ((hm_ur (hm_nfC 24 (by decide))).trans ((hm_ur (hm_nfC 23 (by decide))).trans ((hm_up (hm_nfC 14 (by decide) _)).trans ((hm_up (hm_nfC 14 (by decide) _)).trans ((hm_up (hm_nfC 14 (by decide) _)).trans ((hm_up (hm_nfC 14 (by decide) _)).trans hq.1)))))))) (fun _ => rfl) (sp_isKnown sp_15 (gUr (gUr (gUr (gUp (gUp (gUp (gUp σ 14 5 d) 14 6 t) 14 7 (σ0 15 6)) 14 12 0) 23 S) 24 T) 25 P) (hm_FA (((hm_ur (hm_nfC 25 (by decide))).trans ((hm_ur (hm_nfC 24 (by decide))).trans ((hm_ur (hm_nfC 23 (by decide))).trans ((hm_up (hm_nfC 14 (by decide) _)).trans ((hm_up (hm_nfC 14 (by decide) _)).trans ((hm_up (hm_nfC 14 (by decide) _)).trans ((hm_up (hm_nfC 14 (by decide) _)).trans hq.1)))))))) hI.1).1.own.2.2.1 (σ0 22 i) t)) ?_
            refine v_if_eqB (pc' := 105) (t := 254) dX7_load_102 rfl rfl (fun c_102 => ?_) (fun c_102 => ?_)
            · skip
              refine v_iinc (pc' := 257) (x := i) (ls' := [gR 14, gI d, gI t, gI (σ0 15 6), gI w, gI m, gI (i + 1), gI (σ0 22 i), gX 1]) (by omega) (by decide) (by rfl) (by rfl) dX7_load_254 rfl ?_
              refine w_goto (pc' := 69) dX7_load_257 rfl ?_
              refine Wp.lose (ls' := [gR 14, gI d, gI t, gI (σ0 15 6), gI w, gI m, gI (i + 1), gX 1, gX 1]) ⟨.inr rfl, ⟨.inr rfl, ⟨.inr rfl, ⟨.inr rfl, ⟨.inr rfl, ⟨.inr rfl, ⟨.inr rfl, ⟨.inl rfl, ⟨.inr rfl, trivial⟩⟩⟩⟩⟩⟩⟩⟩⟩ ?_
              exact ih_69 _ (by omega) (i + 1) w m S T P rfl (by first | (exfalso; omega) | exact LDI.skip (by omega) (by unfold liv; omega) hl | exact LDJ.merge hI hj (by omega) ⟨by omega, by omega, by omega⟩ (by omega) (by omega) | exact LDJ.app hI hj (by omega) ⟨by omega, by omega, by omega⟩ (by omega))
            · skip
              refine w_aload_n (pc' := 106) (i := 0) (by rfl) (by rfl) dX7_load_105 rfl ?_
              refine w_getS (pc' := 109) (q := 15) fg_X7_14 kd_14 sf_X7_0 gr_14_0 dX7_load_106 rfl ?_
              refine w_iload (pc' := 111) (by rfl) dX7_load_109 rfl ?_
              refine w_iload_n (pc' := 112) (i := 1) (by rfl) (by rfl) dX7_load_111 rfl ?_
              refine v_callVE (pc' := 115) (st' := [gI (gb (0 ≤ (σ0 22 i) ∧ (σ0 22 i) < σ0 15 6 ∧ σ0 19 (σ0 22 i) ≤ d ∧ (σ0 20 (σ0 22 i) = -1 ∨ d < σ0 20 (σ0 22 i))))]) (d' := 0) (av := [gI (σ0 22 i), gI d]) mi_mX9_covers lk_X7_68 rfl ci_X9 kd_15 rfl (Nat.le_of_ble_eq_true rfl) (Nat.le_of_ble_eq_true rfl) dX7_load_112 rfl rfl (hmP (F := fun z => gI (gb (0 ≤ (σ0 22 i) ∧ (σ0 22 i) < z 15 6 ∧ z 19 (σ0 22 i) ≤ d ∧ (z 20 (σ0 22 i) = -1 ∨ d < z 20 (σ0 22 i))))) (((hm_ur (hm_nfC 25 (by decide))).trans ((hm_ur (hm_nfC 24 (by decide))).trans ((hm_ur (hm_nfC 23 (by decide))).trans ((hm_up (hm_nfC 14 (by decide) _)).trans ((hm_up (hm_nfC 14 (by decide) _)).trans ((hm_up (hm_nfC 14 (by decide) _)).trans ((hm_up (hm_nfC 14 (by decide) _)).trans hq.1)))))))) (fun _ => rfl) (sp_covers sp_15 (gUr (gUr (gUr (gUp (gUp (gUp (gUp σ 14 5 d) 14 6 t) 14 7 (σ0 15 6)) 14 12 0) 23 S) 24 T) 25 P) (hm_FA (((hm_ur (hm_nfC 25 (by decide))).trans ((hm_ur (hm_nfC 24 (by decide))).trans ((hm_ur (hm_nfC 23 (by decide))).trans ((hm_up (hm_nfC 14 (by decide) _)).trans ((hm_up (hm_nfC 14 (by decide) _)).trans ((hm_up (hm_nfC 14 (by decide) _)).trans ((hm_up (hm_nfC 14 (by decide) _)).trans hq.1)))))))) hI.1).1.own.2.2.1 (σ0 22 i) d)) ?_
              refine v_if_neB (pc' := 118) (t := 121) dX7_load_115 rfl rfl (fun c_115 => ?_) (fun c_115 => ?_)
              · skip
                have hl_121 : ∀ (mm : Nat) (w2 : Int) (S2 : Int → Int), (60 - w2).toNat = mm → (LDJ σ0 d t i w2 m S2 T P) → Wp mX7_load 1 (fun v σ' => v = gX 1 ∧ QC σ0 σ' ∧ Kp 34 σ σ' ∧ (∀ k, 26 ≤ k → k ≤ 33 → σ' k = σ k) ∧ σ' 14 7 = σ0 15 6 ∧ σ' 14 5 = d ∧ σ' 14 6 = t ∧ ARW (σ' 23) (σ' 24) (σ' 25) (AR σ0 d t)) (gUr (gUr (gUr (gUp (gUp (gUp (gUp σ 14 5 d) 14 6 t) 14 7 (σ0 15 6)) 14 12 0) 23 S2) 24 T) 25 P) 121 [gR 14, gI d, gI t, gI (σ0 15 6), gI w2, gI m, gI i, gI (σ0 22 i), gX 1] [] := by
                  intro m_121
                  induction m_121 using Nat.strongRecOn with
                  | _ m_121 ih_121 =>
                    intro w2 S2 hmeas_121 hj
                    have hw0 := hj.2.2.1
                    have hw1 := hj.2.2.2.1
                    have lo := hj.lo
                    have big := hj.big hI
                    refine w_iload (pc' := 123) (by rfl) dX7_load_121 rfl ?_
                    refine w_aload_n (pc' := 124) (i := 0) (by rfl) (by rfl) dX7_load_123 rfl ?_
                    refine w_getS (pc' := 127) (q := 15) fg_X7_14 kd_14 sf_X7_0 gr_14_0 dX7_load_124 rfl ?_
                    refine w_iload (pc' := 129) (by rfl) dX7_load_127 rfl ?_
                    refine v_callVE (pc' := 132) (st' := [gI (σ0 16 (σ0 22 i)), gI w2]) (d' := 0) (av := [gI (σ0 22 i)]) mi_mX9_first lk_X7_82 rfl ci_X9 kd_15 rfl (Nat.le_of_ble_eq_true rfl) (Nat.le_of_ble_eq_true rfl) dX7_load_129 rfl rfl (hmP (F := fun z => gI (z 16 (σ0 22 i))) (((hm_ur (hm_nfC 25 (by decide))).trans ((hm_ur (hm_nfC 24 (by decide))).trans ((hm_ur (hm_nfC 23 (by decide))).trans ((hm_up (hm_nfC 14 (by decide) _)).trans ((hm_up (hm_nfC 14 (by decide) _)).trans ((hm_up (hm_nfC 14 (by decide) _)).trans ((hm_up (hm_nfC 14 (by decide) _)).trans hq.1)))))))) (fun _ => rfl) (sp_first sp_15 (gUr (gUr (gUr (gUp (gUp (gUp (gUp σ 14 5 d) 14 6 t) 14 7 (σ0 15 6)) 14 12 0) 23 S2) 24 T) 25 P) (i := σ0 22 i) (by omega) (by omega))) ?_
                    refine w_icmp_ge (pc' := 135) (t := 157) dX7_load_132 rfl rfl (fun c_132 => ?_) (fun c_132 => ?_)
                    · skip
                      refine w_aload_n (pc' := 158) (i := 0) (by rfl) (by rfl) dX7_load_157 rfl ?_
                      refine w_getS (pc' := 161) (q := 15) fg_X7_14 kd_14 sf_X7_0 gr_14_0 dX7_load_158 rfl ?_
                      refine w_iload (pc' := 163) (by rfl) dX7_load_161 rfl ?_
                      refine v_callVE (pc' := 166) (st' := [gI (σ0 17 (σ0 22 i))]) (d' := 0) (av := [gI (σ0 22 i)]) mi_mX9_second lk_X7_65 rfl ci_X9 kd_15 rfl (Nat.le_of_ble_eq_true rfl) (Nat.le_of_ble_eq_true rfl) dX7_load_163 rfl rfl (hmP (F := fun z => gI (z 17 (σ0 22 i))) (((hm_ur (hm_nfC 25 (by decide))).trans ((hm_ur (hm_nfC 24 (by decide))).trans ((hm_ur (hm_nfC 23 (by decide))).trans ((hm_up (hm_nfC 14 (by decide) _)).trans ((hm_up (hm_nfC 14 (by decide) _)).trans ((hm_up (hm_nfC 14 (by decide) _)).trans ((hm_up (hm_nfC 14 (by decide) _)).trans hq.1)))))))) (fun _ => rfl) (sp_second sp_15 (gUr (gUr (gUr (gUp (gUp (gUp (gUp σ 14 5 d) 14 6 t) 14 7 (σ0 15 6)) 14 12 0) 23 S2) 24 T) 25 P) (i := σ0 22 i) (by omega) (by omega))) ?_
                      refine w_istore (pc' := 168) (ls' := [gR 14, gI d, gI t, gI (σ0 15 6), gI w2, gI m, gI i, gI (σ0 22 i), gI (σ0 17 (σ0 22 i))]) (by decide) (by rfl) dX7_load_166 rfl ?_
                      refine w_iload (pc' := 170) (by rfl) dX7_load_168 rfl ?_
                      refine w_aload_n (pc' := 171) (i := 0) (by rfl) (by rfl) dX7_load_170 rfl ?_
                      refine w_getS (pc' := 174) (q := 23) fg_X7_24 kd_14 sf_X7_2 gr_14_2 dX7_load_171 rfl ?_
                      refine w_iload (pc' := 176) (by rfl) dX7_load_174 rfl ?_
                      refine w_iald (pc' := 177) kd_23 (by omega) (by omega) dX7_load_176 rfl ?_
                      show Wp _ _ _ _ _ _ [gI (S2 w2), gI m]
                      refine w_icmp_le (pc' := 180) (t := 218) dX7_load_177 rfl rfl (fun c_177 => ?_) (fun c_177 => ?_)
                      · skip
                        refine w_iload (pc' := 220) (by rfl) dX7_load_218 rfl ?_
                        refine w_sipush (pc' := 223) (by decide) (by decide) dX7_load_220 rfl ?_
                        refine w_icmp_ge (pc' := 226) (t := 254) dX7_load_223 rfl rfl (fun c_223 => ?_) (fun c_223 => ?_)
                        · skip
                          refine v_iinc (pc' := 257) (x := i) (ls' := [gR 14, gI d, gI t, gI (σ0 15 6), gI w2, gI m, gI (i + 1), gI (σ0 22 i), gI (σ0 17 (σ0 22 i))]) (by omega) (by decide) (by rfl) (by rfl) dX7_load_254 rfl ?_
                          refine w_goto (pc' := 69) dX7_load_257 rfl ?_
                          refine Wp.lose (ls' := [gR 14, gI d, gI t, gI (σ0 15 6), gI w2, gI m, gI (i + 1), gX 1, gX 1]) ⟨.inr rfl, ⟨.inr rfl, ⟨.inr rfl, ⟨.inr rfl, ⟨.inr rfl, ⟨.inr rfl, ⟨.inr rfl, ⟨.inl rfl, ⟨.inl rfl, trivial⟩⟩⟩⟩⟩⟩⟩⟩⟩ ?_
                          exact ih_69 _ (by omega) (i + 1) w2 m S2 T P rfl (by first | (exfalso; omega) | exact LDI.skip (by omega) (by unfold liv; omega) hl | exact LDJ.merge hI hj (by omega) ⟨by omega, by omega, by omega⟩ (by omega) (by omega) | exact LDJ.app hI hj (by omega) ⟨by omega, by omega, by omega⟩ (by omega))
                        · skip
                          refine w_aload_n (pc' := 227) (i := 0) (by rfl) (by rfl) dX7_load_226 rfl ?_
                          refine w_getS (pc' := 230) (q := 24) fg_X7_27 kd_14 sf_X7_3 gr_14_3 dX7_load_227 rfl ?_
                          refine w_iload (pc' := 232) (by rfl) dX7_load_230 rfl ?_
                          refine w_iload (pc' := 234) (by rfl) dX7_load_232 rfl ?_
                          refine w_iast (pc' := 235) kd_24 (by omega) (by omega) dX7_load_234 rfl ?_
                          refine Wp.heq (σ' := gUr (gUr (gUr (gUp (gUp (gUp (gUp σ 14 5 d) 14 6 t) 14 7 (σ0 15 6)) 14 12 0) 23 S2) 24 (updI T m (σ0 17 (σ0 22 i)))) 25 P) ((gUp_cr (by decide)).trans (congrArg (fun z => gUr z 25 P) gUp_row)) ?_
                          refine w_aload_n (pc' := 236) (i := 0) (by rfl) (by rfl) dX7_load_235 rfl ?_
                          refine w_getS (pc' := 239) (q := 25) fg_X7_30 kd_14 sf_X7_4 gr_14_4 dX7_load_236 rfl ?_
                          refine w_iload (pc' := 241) (by rfl) dX7_load_239 rfl ?_
                          refine w_aload_n (pc' := 242) (i := 0) (by rfl) (by rfl) dX7_load_241 rfl ?_
                          refine w_getS (pc' := 245) (q := 15) fg_X7_14 kd_14 sf_X7_0 gr_14_0 dX7_load_242 rfl ?_
                          refine w_iload (pc' := 247) (by rfl) dX7_load_245 rfl ?_
                          refine v_callVE (pc' := 250) (st' := [gI (σ0 18 (σ0 22 i)), gI m, gR 25]) (d' := 0) (av := [gI (σ0 22 i)]) mi_mX9_share lk_X7_72 rfl ci_X9 kd_15 rfl (Nat.le_of_ble_eq_true rfl) (Nat.le_of_ble_eq_true rfl) dX7_load_247 rfl rfl (hmP (F := fun z => gI (z 18 (σ0 22 i))) (((hm_ur (hm_nfC 25 (by decide))).trans ((hm_ur (hm_nfC 24 (by decide))).trans ((hm_ur (hm_nfC 23 (by decide))).trans ((hm_up (hm_nfC 14 (by decide) _)).trans ((hm_up (hm_nfC 14 (by decide) _)).trans ((hm_up (hm_nfC 14 (by decide) _)).trans ((hm_up (hm_nfC 14 (by decide) _)).trans hq.1)))))))) (fun _ => rfl) (sp_share sp_15 (gUr (gUr (gUr (gUp (gUp (gUp (gUp σ 14 5 d) 14 6 t) 14 7 (σ0 15 6)) 14 12 0) 23 S2) 24 (updI T m (σ0 17 (σ0 22 i)))) 25 P) (i := σ0 22 i) (by omega) (by omega))) ?_
                          refine w_iast (pc' := 251) kd_25 (by omega) (by omega) dX7_load_250 rfl ?_
                          refine Wp.heq (σ' := gUr (gUr (gUr (gUp (gUp (gUp (gUp σ 14 5 d) 14 6 t) 14 7 (σ0 15 6)) 14 12 0) 23 S2) 24 (updI T m (σ0 17 (σ0 22 i)))) 25 (updI P m (σ0 18 (σ0 22 i)))) gUp_row ?_
                          refine v_iinc (pc' := 254) (x := m) (ls' := [gR 14, gI d, gI t, gI (σ0 15 6), gI w2, gI (m + 1), gI i, gI (σ0 22 i), gI (σ0 17 (σ0 22 i))]) (by omega) (by decide) (by rfl) (by rfl) dX7_load_251 rfl ?_
                          refine v_iinc (pc' := 257) (x := i) (ls' := [gR 14, gI d, gI t, gI (σ0 15 6), gI w2, gI (m + 1), gI (i + 1), gI (σ0 22 i), gI (σ0 17 (σ0 22 i))]) (by omega) (by decide) (by rfl) (by rfl) dX7_load_254 rfl ?_
                          refine w_goto (pc' := 69) dX7_load_257 rfl ?_
                          refine Wp.lose (ls' := [gR 14, gI d, gI t, gI (σ0 15 6), gI w2, gI (m + 1), gI (i + 1), gX 1, gX 1]) ⟨.inr rfl, ⟨.inr rfl, ⟨.inr rfl, ⟨.inr rfl, ⟨.inr rfl, ⟨.inr rfl, ⟨.inr rfl, ⟨.inl rfl, ⟨.inl rfl, trivial⟩⟩⟩⟩⟩⟩⟩⟩⟩ ?_
                          exact ih_69 _ (by omega) (i + 1) w2 (m + 1) S2 (updI T m (σ0 17 (σ0 22 i))) (updI P m (σ0 18 (σ0 22 i))) rfl (by first | (exfalso; omega) | exact LDI.skip (by omega) (by unfold liv; omega) hl | exact LDJ.merge hI hj (by omega) ⟨by omega, by omega, by omega⟩ (by omega) (by omega) | exact LDJ.app hI hj (by omega) ⟨by omega, by omega, by omega⟩ (by omega))
                      · skip
                        refine w_aload_n (pc' := 181) (i := 0) (by rfl) (by rfl) dX7_load_180 rfl ?_
                        refine w_getS (pc' := 184) (q := 24) fg_X7_27 kd_14 sf_X7_3 gr_14_3 dX7_load_181 rfl ?_
                        refine w_iload (pc' := 186) (by rfl) dX7_load_184 rfl ?_
                        refine w_iconst (pc' := 187) (by decide) dX7_load_186 rfl ?_
                        refine v_isub (pc' := 188) (by omega) dX7_load_187 rfl ?_
                        refine w_iald (pc' := 189) kd_24 (by have := lo; omega) (by have := lo; omega) dX7_load_188 rfl ?_
                        show Wp _ _ _ _ _ _ [gI (T (m - 1))]
                        refine w_iload (pc' := 191) (by rfl) dX7_load_189 rfl ?_
                        refine w_icmp_ne (pc' := 194) (t := 218) dX7_load_191 rfl rfl (fun c_191 => ?_) (fun c_191 => ?_)
                        · skip
                          refine w_iload (pc' := 220) (by rfl) dX7_load_218 rfl ?_
                          refine w_sipush (pc' := 223) (by decide) (by decide) dX7_load_220 rfl ?_
                          refine w_icmp_ge (pc' := 226) (t := 254) dX7_load_223 rfl rfl (fun c_223 => ?_) (fun c_223 => ?_)
                          · skip
                            refine v_iinc (pc' := 257) (x := i) (ls' := [gR 14, gI d, gI t, gI (σ0 15 6), gI w2, gI m, gI (i + 1), gI (σ0 22 i), gI (σ0 17 (σ0 22 i))]) (by omega) (by decide) (by rfl) (by rfl) dX7_load_254 rfl ?_
                            refine w_goto (pc' := 69) dX7_load_257 rfl ?_
                            refine Wp.lose (ls' := [gR 14, gI d, gI t, gI (σ0 15 6), gI w2, gI m, gI (i + 1), gX 1, gX 1]) ⟨.inr rfl, ⟨.inr rfl, ⟨.inr rfl, ⟨.inr rfl, ⟨.inr rfl, ⟨.inr rfl, ⟨.inr rfl, ⟨.inl rfl, ⟨.inl rfl, trivial⟩⟩⟩⟩⟩⟩⟩⟩⟩ ?_
                            exact ih_69 _ (by omega) (i + 1) w2 m S2 T P rfl (by first | (exfalso; omega) | exact LDI.skip (by omega) (by unfold liv; omega) hl | exact LDJ.merge hI hj (by omega) ⟨by omega, by omega, by omega⟩ (by omega) (by omega) | exact LDJ.app hI hj (by omega) ⟨by omega, by omega, by omega⟩ (by omega))
                          · skip
                            refine w_aload_n (pc' := 227) (i := 0) (by rfl) (by rfl) dX7_load_226 rfl ?_
                            refine w_getS (pc' := 230) (q := 24) fg_X7_27 kd_14 sf_X7_3 gr_14_3 dX7_load_227 rfl ?_
                            refine w_iload (pc' := 232) (by rfl) dX7_load_230 rfl ?_
                            refine w_iload (pc' := 234) (by rfl) dX7_load_232 rfl ?_
                            refine w_iast (pc' := 235) kd_24 (by omega) (by omega) dX7_load_234 rfl ?_
                            refine Wp.heq (σ' := gUr (gUr (gUr (gUp (gUp (gUp (gUp σ 14 5 d) 14 6 t) 14 7 (σ0 15 6)) 14 12 0) 23 S2) 24 (updI T m (σ0 17 (σ0 22 i)))) 25 P) ((gUp_cr (by decide)).trans (congrArg (fun z => gUr z 25 P) gUp_row)) ?_
                            refine w_aload_n (pc' := 236) (i := 0) (by rfl) (by rfl) dX7_load_235 rfl ?_
                            refine w_getS (pc' := 239) (q := 25) fg_X7_30 kd_14 sf_X7_4 gr_14_4 dX7_load_236 rfl ?_
                            refine w_iload (pc' := 241) (by rfl) dX7_load_239 rfl ?_
                            refine w_aload_n (pc' := 242) (i := 0) (by rfl) (by rfl) dX7_load_241 rfl ?_
                            refine w_getS (pc' := 245) (q := 15) fg_X7_14 kd_14 sf_X7_0 gr_14_0 dX7_load_242 rfl ?_
                            refine w_iload (pc' := 247) (by rfl) dX7_load_245 rfl ?_
                            refine v_callVE (pc' := 250) (st' := [gI (σ0 18 (σ0 22 i)), gI m, gR 25]) (d' := 0) (av := [gI (σ0 22 i)]) mi_mX9_share lk_X7_72 rfl ci_X9 kd_15 rfl (Nat.le_of_ble_eq_true rfl) (Nat.le_of_ble_eq_true rfl) dX7_load_247 rfl rfl (hmP (F := fun z => gI (z 18 (σ0 22 i))) (((hm_ur (hm_nfC 25 (by decide))).trans ((hm_ur (hm_nfC 24 (by decide))).trans ((hm_ur (hm_nfC 23 (by decide))).trans ((hm_up (hm_nfC 14 (by decide) _)).trans ((hm_up (hm_nfC 14 (by decide) _)).trans ((hm_up (hm_nfC 14 (by decide) _)).trans ((hm_up (hm_nfC 14 (by decide) _)).trans hq.1)))))))) (fun _ => rfl) (sp_share sp_15 (gUr (gUr (gUr (gUp (gUp (gUp (gUp σ 14 5 d) 14 6 t) 14 7 (σ0 15 6)) 14 12 0) 23 S2) 24 (updI T m (σ0 17 (σ0 22 i)))) 25 P) (i := σ0 22 i) (by omega) (by omega))) ?_
                            refine w_iast (pc' := 251) kd_25 (by omega) (by omega) dX7_load_250 rfl ?_
                            refine Wp.heq (σ' := gUr (gUr (gUr (gUp (gUp (gUp (gUp σ 14 5 d) 14 6 t) 14 7 (σ0 15 6)) 14 12 0) 23 S2) 24 (updI T m (σ0 17 (σ0 22 i)))) 25 (updI P m (σ0 18 (σ0 22 i)))) gUp_row ?_
                            refine v_iinc (pc' := 254) (x := m) (ls' := [gR 14, gI d, gI t, gI (σ0 15 6), gI w2, gI (m + 1), gI i, gI (σ0 22 i), gI (σ0 17 (σ0 22 i))]) (by omega) (by decide) (by rfl) (by rfl) dX7_load_251 rfl ?_
                            refine v_iinc (pc' := 257) (x := i) (ls' := [gR 14, gI d, gI t, gI (σ0 15 6), gI w2, gI (m + 1), gI (i + 1), gI (σ0 22 i), gI (σ0 17 (σ0 22 i))]) (by omega) (by decide) (by rfl) (by rfl) dX7_load_254 rfl ?_
                            refine w_goto (pc' := 69) dX7_load_257 rfl ?_
                            refine Wp.lose (ls' := [gR 14, gI d, gI t, gI (σ0 15 6), gI w2, gI (m + 1), gI (i + 1), gX 1, gX 1]) ⟨.inr rfl, ⟨.inr rfl, ⟨.inr rfl, ⟨.inr rfl, ⟨.inr rfl, ⟨.inr rfl, ⟨.inr rfl, ⟨.inl rfl, ⟨.inl rfl, trivial⟩⟩⟩⟩⟩⟩⟩⟩⟩ ?_
                            exact ih_69 _ (by omega) (i + 1) w2 (m + 1) S2 (updI T m (σ0 17 (σ0 22 i))) (updI P m (σ0 18 (σ0 22 i))) rfl (by first | (exfalso; omega) | exact LDI.skip (by omega) (by unfold liv; omega) hl | exact LDJ.merge hI hj (by omega) ⟨by omega, by omega, by omega⟩ (by omega) (by omega) | exact LDJ.app hI hj (by omega) ⟨by omega, by omega, by omega⟩ (by omega))
                        · skip
                          refine w_aload_n (pc' := 195) (i := 0) (by rfl) (by rfl) dX7_load_194 rfl ?_
                          refine w_getS (pc' := 198) (q := 25) fg_X7_30 kd_14 sf_X7_4 gr_14_4 dX7_load_195 rfl ?_
                          refine w_iload (pc' := 200) (by rfl) dX7_load_198 rfl ?_
                          refine w_iconst (pc' := 201) (by decide) dX7_load_200 rfl ?_
                          refine v_isub (pc' := 202) (by omega) dX7_load_201 rfl ?_
                          refine w_dup2 (pc' := 203) dX7_load_202 rfl ?_
                          refine w_iald (pc' := 204) kd_25 (by have := lo; omega) (by have := lo; omega) dX7_load_203 rfl ?_
                          show Wp _ _ _ _ _ _ [gI (P (m - 1)), gI (m - 1), gR 25]
                          refine w_aload_n (pc' := 205) (i := 0) (by rfl) (by rfl) dX7_load_204 rfl ?_
                          refine w_getS (pc' := 208) (q := 15) fg_X7_14 kd_14 sf_X7_0 gr_14_0 dX7_load_205 rfl ?_
                          refine w_iload (pc' := 210) (by rfl) dX7_load_208 rfl ?_
                          refine v_callVE (pc' := 213) (st' := [gI (σ0 18 (σ0 22 i)), gI (P (m - 1)), gI (m - 1), gR 25]) (d' := 0) (av := [gI (σ0 22 i)]) mi_mX9_share lk_X7_72 rfl ci_X9 kd_15 rfl (Nat.le_of_ble_eq_true rfl) (Nat.le_of_ble_eq_true rfl) dX7_load_210 rfl rfl (hmP (F := fun z => gI (z 18 (σ0 22 i))) (((hm_ur (hm_nfC 25 (by decide))).trans ((hm_ur (hm_nfC 24 (by decide))).trans ((hm_ur (hm_nfC 23 (by decide))).trans ((hm_up (hm_nfC 14 (by decide) _)).trans ((hm_up (hm_nfC 14 (by decide) _)).trans ((hm_up (hm_nfC 14 (by decide) _)).trans ((hm_up (hm_nfC 14 (by decide) _)).trans hq.1)))))))) (fun _ => rfl) (sp_share sp_15 (gUr (gUr (gUr (gUp (gUp (gUp (gUp σ 14 5 d) 14 6 t) 14 7 (σ0 15 6)) 14 12 0) 23 S2) 24 T) 25 P) (i := σ0 22 i) (by omega) (by omega))) ?_
                          refine v_iadd (pc' := 214) (by have := big (by omega); omega) dX7_load_213 rfl ?_
                          refine w_iast (pc' := 215) kd_25 (by have := lo; omega) (by have := lo; omega) dX7_load_214 rfl ?_
                          refine Wp.heq (σ' := gUr (gUr (gUr (gUp (gUp (gUp (gUp σ 14 5 d) 14 6 t) 14 7 (σ0 15 6)) 14 12 0) 23 S2) 24 T) 25 (updI P (m - 1) ((P (m - 1)) + (σ0 18 (σ0 22 i))))) gUp_row ?_
                          refine w_goto (pc' := 254) dX7_load_215 rfl ?_
                          refine v_iinc (pc' := 257) (x := i) (ls' := [gR 14, gI d, gI t, gI (σ0 15 6), gI w2, gI m, gI (i + 1), gI (σ0 22 i), gI (σ0 17 (σ0 22 i))]) (by omega) (by decide) (by rfl) (by rfl) dX7_load_254 rfl ?_
                          refine w_goto (pc' := 69) dX7_load_257 rfl ?_
                          refine Wp.lose (ls' := [gR 14, gI d, gI t, gI (σ0 15 6), gI w2, gI m, gI (i + 1), gX 1, gX 1]) ⟨.inr rfl, ⟨.inr rfl, ⟨.inr rfl, ⟨.inr rfl, ⟨.inr rfl, ⟨.inr rfl, ⟨.inr rfl, ⟨.inl rfl, ⟨.inl rfl, trivial⟩⟩⟩⟩⟩⟩⟩⟩⟩ ?_
                          exact ih_69 _ (by omega) (i + 1) w2 m S2 T (updI P (m - 1) ((P (m - 1)) + (σ0 18 (σ0 22 i)))) rfl (by first | (exfalso; omega) | exact LDI.skip (by omega) (by unfold liv; omega) hl | exact LDJ.merge hI hj (by omega) ⟨by omega, by omega, by omega⟩ (by omega) (by omega) | exact LDJ.app hI hj (by omega) ⟨by omega, by omega, by omega⟩ (by omega))
                    · skip
                      refine w_iload (pc' := 137) (by rfl) dX7_load_135 rfl ?_
                      refine w_bipush (pc' := 139) (by decide) (by decide) dX7_load_137 rfl ?_
                      refine w_icmp_ge (pc' := 142) (t := 157) dX7_load_139 rfl rfl (fun c_139 => ?_) (fun c_139 => ?_)
                      · skip
                        refine w_aload_n (pc' := 158) (i := 0) (by rfl) (by rfl) dX7_load_157 rfl ?_
                        refine w_getS (pc' := 161) (q := 15) fg_X7_14 kd_14 sf_X7_0 gr_14_0 dX7_load_158 rfl ?_
                        refine w_iload (pc' := 163) (by rfl) dX7_load_161 rfl ?_
                        refine v_callVE (pc' := 166) (st' := [gI (σ0 17 (σ0 22 i))]) (d' := 0) (av := [gI (σ0 22 i)]) mi_mX9_second lk_X7_65 rfl ci_X9 kd_15 rfl (Nat.le_of_ble_eq_true rfl) (Nat.le_of_ble_eq_true rfl) dX7_load_163 rfl rfl (hmP (F := fun z => gI (z 17 (σ0 22 i))) (((hm_ur (hm_nfC 25 (by decide))).trans ((hm_ur (hm_nfC 24 (by decide))).trans ((hm_ur (hm_nfC 23 (by decide))).trans ((hm_up (hm_nfC 14 (by decide) _)).trans ((hm_up (hm_nfC 14 (by decide) _)).trans ((hm_up (hm_nfC 14 (by decide) _)).trans ((hm_up (hm_nfC 14 (by decide) _)).trans hq.1)))))))) (fun _ => rfl) (sp_second sp_15 (gUr (gUr (gUr (gUp (gUp (gUp (gUp σ 14 5 d) 14 6 t) 14 7 (σ0 15 6)) 14 12 0) 23 S2) 24 T) 25 P) (i := σ0 22 i) (by omega) (by omega))) ?_
                        refine w_istore (pc' := 168) (ls' := [gR 14, gI d, gI t, gI (σ0 15 6), gI w2, gI m, gI i, gI (σ0 22 i), gI (σ0 17 (σ0 22 i))]) (by decide) (by rfl) dX7_load_166 rfl ?_
                        refine w_iload (pc' := 170) (by rfl) dX7_load_168 rfl ?_
                        refine w_aload_n (pc' := 171) (i := 0) (by rfl) (by rfl) dX7_load_170 rfl ?_
                        refine w_getS (pc' := 174) (q := 23) fg_X7_24 kd_14 sf_X7_2 gr_14_2 dX7_load_171 rfl ?_
                        refine w_iload (pc' := 176) (by rfl) dX7_load_174 rfl ?_
                        refine w_iald (pc' := 177) kd_23 (by omega) (by omega) dX7_load_176 rfl ?_
                        show Wp _ _ _ _ _ _ [gI (S2 w2), gI m]
                        refine w_icmp_le (pc' := 180) (t := 218) dX7_load_177 rfl rfl (fun c_177 => ?_) (fun c_177 => ?_)
                        · skip
                          refine w_iload (pc' := 220) (by rfl) dX7_load_218 rfl ?_
                          refine w_sipush (pc' := 223) (by decide) (by decide) dX7_load_220 rfl ?_
                          refine w_icmp_ge (pc' := 226) (t := 254) dX7_load_223 rfl rfl (fun c_223 => ?_) (fun c_223 => ?_)
                          · skip
                            refine v_iinc (pc' := 257) (x := i) (ls' := [gR 14, gI d, gI t, gI (σ0 15 6), gI w2, gI m, gI (i + 1), gI (σ0 22 i), gI (σ0 17 (σ0 22 i))]) (by omega) (by decide) (by rfl) (by rfl) dX7_load_254 rfl ?_
                            refine w_goto (pc' := 69) dX7_load_257 rfl ?_
                            refine Wp.lose (ls' := [gR 14, gI d, gI t, gI (σ0 15 6), gI w2, gI m, gI (i + 1), gX 1, gX 1]) ⟨.inr rfl, ⟨.inr rfl, ⟨.inr rfl, ⟨.inr rfl, ⟨.inr rfl, ⟨.inr rfl, ⟨.inr rfl, ⟨.inl rfl, ⟨.inl rfl, trivial⟩⟩⟩⟩⟩⟩⟩⟩⟩ ?_
                            exact ih_69 _ (by omega) (i + 1) w2 m S2 T P rfl (by first | (exfalso; omega) | exact LDI.skip (by omega) (by unfold liv; omega) hl | exact LDJ.merge hI hj (by omega) ⟨by omega, by omega, by omega⟩ (by omega) (by omega) | exact LDJ.app hI hj (by omega) ⟨by omega, by omega, by omega⟩ (by omega))
                          · skip
                            refine w_aload_n (pc' := 227) (i := 0) (by rfl) (by rfl) dX7_load_226 rfl ?_
                            refine w_getS (pc' := 230) (q := 24) fg_X7_27 kd_14 sf_X7_3 gr_14_3 dX7_load_227 rfl ?_
                            refine w_iload (pc' := 232) (by rfl) dX7_load_230 rfl ?_
                            refine w_iload (pc' := 234) (by rfl) dX7_load_232 rfl ?_
                            refine w_iast (pc' := 235) kd_24 (by omega) (by omega) dX7_load_234 rfl ?_
                            refine Wp.heq (σ' := gUr (gUr (gUr (gUp (gUp (gUp (gUp σ 14 5 d) 14 6 t) 14 7 (σ0 15 6)) 14 12 0) 23 S2) 24 (updI T m (σ0 17 (σ0 22 i)))) 25 P) ((gUp_cr (by decide)).trans (congrArg (fun z => gUr z 25 P) gUp_row)) ?_
                            refine w_aload_n (pc' := 236) (i := 0) (by rfl) (by rfl) dX7_load_235 rfl ?_
                            refine w_getS (pc' := 239) (q := 25) fg_X7_30 kd_14 sf_X7_4 gr_14_4 dX7_load_236 rfl ?_
                            refine w_iload (pc' := 241) (by rfl) dX7_load_239 rfl ?_
                            refine w_aload_n (pc' := 242) (i := 0) (by rfl) (by rfl) dX7_load_241 rfl ?_
                            refine w_getS (pc' := 245) (q := 15) fg_X7_14 kd_14 sf_X7_0 gr_14_0 dX7_load_242 rfl ?_
                            refine w_iload (pc' := 247) (by rfl) dX7_load_245 rfl ?_
                            refine v_callVE (pc' := 250) (st' := [gI (σ0 18 (σ0 22 i)), gI m, gR 25]) (d' := 0) (av := [gI (σ0 22 i)]) mi_mX9_share lk_X7_72 rfl ci_X9 kd_15 rfl (Nat.le_of_ble_eq_true rfl) (Nat.le_of_ble_eq_true rfl) dX7_load_247 rfl rfl (hmP (F := fun z => gI (z 18 (σ0 22 i))) (((hm_ur (hm_nfC 25 (by decide))).trans ((hm_ur (hm_nfC 24 (by decide))).trans ((hm_ur (hm_nfC 23 (by decide))).trans ((hm_up (hm_nfC 14 (by decide) _)).trans ((hm_up (hm_nfC 14 (by decide) _)).trans ((hm_up (hm_nfC 14 (by decide) _)).trans ((hm_up (hm_nfC 14 (by decide) _)).trans hq.1)))))))) (fun _ => rfl) (sp_share sp_15 (gUr (gUr (gUr (gUp (gUp (gUp (gUp σ 14 5 d) 14 6 t) 14 7 (σ0 15 6)) 14 12 0) 23 S2) 24 (updI T m (σ0 17 (σ0 22 i)))) 25 P) (i := σ0 22 i) (by omega) (by omega))) ?_
                            refine w_iast (pc' := 251) kd_25 (by omega) (by omega) dX7_load_250 rfl ?_
                            refine Wp.heq (σ' := gUr (gUr (gUr (gUp (gUp (gUp (gUp σ 14 5 d) 14 6 t) 14 7 (σ0 15 6)) 14 12 0) 23 S2) 24 (updI T m (σ0 17 (σ0 22 i)))) 25 (updI P m (σ0 18 (σ0 22 i)))) gUp_row ?_
                            refine v_iinc (pc' := 254) (x := m) (ls' := [gR 14, gI d, gI t, gI (σ0 15 6), gI w2, gI (m + 1), gI i, gI (σ0 22 i), gI (σ0 17 (σ0 22 i))]) (by omega) (by decide) (by rfl) (by rfl) dX7_load_251 rfl ?_
                            refine v_iinc (pc' := 257) (x := i) (ls' := [gR 14, gI d, gI t, gI (σ0 15 6), gI w2, gI (m + 1), gI (i + 1), gI (σ0 22 i), gI (σ0 17 (σ0 22 i))]) (by omega) (by decide) (by rfl) (by rfl) dX7_load_254 rfl ?_
                            refine w_goto (pc' := 69) dX7_load_257 rfl ?_
                            refine Wp.lose (ls' := [gR 14, gI d, gI t, gI (σ0 15 6), gI w2, gI (m + 1), gI (i + 1), gX 1, gX 1]) ⟨.inr rfl, ⟨.inr rfl, ⟨.inr rfl, ⟨.inr rfl, ⟨.inr rfl, ⟨.inr rfl, ⟨.inr rfl, ⟨.inl rfl, ⟨.inl rfl, trivial⟩⟩⟩⟩⟩⟩⟩⟩⟩ ?_
                            exact ih_69 _ (by omega) (i + 1) w2 (m + 1) S2 (updI T m (σ0 17 (σ0 22 i))) (updI P m (σ0 18 (σ0 22 i))) rfl (by first | (exfalso; omega) | exact LDI.skip (by omega) (by unfold liv; omega) hl | exact LDJ.merge hI hj (by omega) ⟨by omega, by omega, by omega⟩ (by omega) (by omega) | exact LDJ.app hI hj (by omega) ⟨by omega, by omega, by omega⟩ (by omega))
                        · skip
                          refine w_aload_n (pc' := 181) (i := 0) (by rfl) (by rfl) dX7_load_180 rfl ?_
                          refine w_getS (pc' := 184) (q := 24) fg_X7_27 kd_14 sf_X7_3 gr_14_3 dX7_load_181 rfl ?_
                          refine w_iload (pc' := 186) (by rfl) dX7_load_184 rfl ?_
                          refine w_iconst (pc' := 187) (by decide) dX7_load_186 rfl ?_
                          refine v_isub (pc' := 188) (by omega) dX7_load_187 rfl ?_
                          refine w_iald (pc' := 189) kd_24 (by have := lo; omega) (by have := lo; omega) dX7_load_188 rfl ?_
                          show Wp _ _ _ _ _ _ [gI (T (m - 1))]
                          refine w_iload (pc' := 191) (by rfl) dX7_load_189 rfl ?_
                          refine w_icmp_ne (pc' := 194) (t := 218) dX7_load_191 rfl rfl (fun c_191 => ?_) (fun c_191 => ?_)
                          · skip
                            refine w_iload (pc' := 220) (by rfl) dX7_load_218 rfl ?_
                            refine w_sipush (pc' := 223) (by decide) (by decide) dX7_load_220 rfl ?_
                            refine w_icmp_ge (pc' := 226) (t := 254) dX7_load_223 rfl rfl (fun c_223 => ?_) (fun c_223 => ?_)
                            · skip
                              refine v_iinc (pc' := 257) (x := i) (ls' := [gR 14, gI d, gI t, gI (σ0 15 6), gI w2, gI m, gI (i + 1), gI (σ0 22 i), gI (σ0 17 (σ0 22 i))]) (by omega) (by decide) (by rfl) (by rfl) dX7_load_254 rfl ?_
                              refine w_goto (pc' := 69) dX7_load_257 rfl ?_
                              refine Wp.lose (ls' := [gR 14, gI d, gI t, gI (σ0 15 6), gI w2, gI m, gI (i + 1), gX 1, gX 1]) ⟨.inr rfl, ⟨.inr rfl, ⟨.inr rfl, ⟨.inr rfl, ⟨.inr rfl, ⟨.inr rfl, ⟨.inr rfl, ⟨.inl rfl, ⟨.inl rfl, trivial⟩⟩⟩⟩⟩⟩⟩⟩⟩ ?_
                              exact ih_69 _ (by omega) (i + 1) w2 m S2 T P rfl (by first | (exfalso; omega) | exact LDI.skip (by omega) (by unfold liv; omega) hl | exact LDJ.merge hI hj (by omega) ⟨by omega, by omega, by omega⟩ (by omega) (by omega) | exact LDJ.app hI hj (by omega) ⟨by omega, by omega, by omega⟩ (by omega))
                            · skip
                              refine w_aload_n (pc' := 227) (i := 0) (by rfl) (by rfl) dX7_load_226 rfl ?_
                              refine w_getS (pc' := 230) (q := 24) fg_X7_27 kd_14 sf_X7_3 gr_14_3 dX7_load_227 rfl ?_
                              refine w_iload (pc' := 232) (by rfl) dX7_load_230 rfl ?_
                              refine w_iload (pc' := 234) (by rfl) dX7_load_232 rfl ?_
                              refine w_iast (pc' := 235) kd_24 (by omega) (by omega) dX7_load_234 rfl ?_
                              refine Wp.heq (σ' := gUr (gUr (gUr (gUp (gUp (gUp (gUp σ 14 5 d) 14 6 t) 14 7 (σ0 15 6)) 14 12 0) 23 S2) 24 (updI T m (σ0 17 (σ0 22 i)))) 25 P) ((gUp_cr (by decide)).trans (congrArg (fun z => gUr z 25 P) gUp_row)) ?_
                              refine w_aload_n (pc' := 236) (i := 0) (by rfl) (by rfl) dX7_load_235 rfl ?_
                              refine w_getS (pc' := 239) (q := 25) fg_X7_30 kd_14 sf_X7_4 gr_14_4 dX7_load_236 rfl ?_
                              refine w_iload (pc' := 241) (by rfl) dX7_load_239 rfl ?_
                              refine w_aload_n (pc' := 242) (i := 0) (by rfl) (by rfl) dX7_load_241 rfl ?_
                              refine w_getS (pc' := 245) (q := 15) fg_X7_14 kd_14 sf_X7_0 gr_14_0 dX7_load_242 rfl ?_
                              refine w_iload (pc' := 247) (by rfl) dX7_load_245 rfl ?_
                              refine v_callVE (pc' := 250) (st' := [gI (σ0 18 (σ0 22 i)), gI m, gR 25]) (d' := 0) (av := [gI (σ0 22 i)]) mi_mX9_share lk_X7_72 rfl ci_X9 kd_15 rfl (Nat.le_of_ble_eq_true rfl) (Nat.le_of_ble_eq_true rfl) dX7_load_247 rfl rfl (hmP (F := fun z => gI (z 18 (σ0 22 i))) (((hm_ur (hm_nfC 25 (by decide))).trans ((hm_ur (hm_nfC 24 (by decide))).trans ((hm_ur (hm_nfC 23 (by decide))).trans ((hm_up (hm_nfC 14 (by decide) _)).trans ((hm_up (hm_nfC 14 (by decide) _)).trans ((hm_up (hm_nfC 14 (by decide) _)).trans ((hm_up (hm_nfC 14 (by decide) _)).trans hq.1)))))))) (fun _ => rfl) (sp_share sp_15 (gUr (gUr (gUr (gUp (gUp (gUp (gUp σ 14 5 d) 14 6 t) 14 7 (σ0 15 6)) 14 12 0) 23 S2) 24 (updI T m (σ0 17 (σ0 22 i)))) 25 P) (i := σ0 22 i) (by omega) (by omega))) ?_
                              refine w_iast (pc' := 251) kd_25 (by omega) (by omega) dX7_load_250 rfl ?_
                              refine Wp.heq (σ' := gUr (gUr (gUr (gUp (gUp (gUp (gUp σ 14 5 d) 14 6 t) 14 7 (σ0 15 6)) 14 12 0) 23 S2) 24 (updI T m (σ0 17 (σ0 22 i)))) 25 (updI P m (σ0 18 (σ0 22 i)))) gUp_row ?_
                              refine v_iinc (pc' := 254) (x := m) (ls' := [gR 14, gI d, gI t, gI (σ0 15 6), gI w2, gI (m + 1), gI i, gI (σ0 22 i), gI (σ0 17 (σ0 22 i))]) (by omega) (by decide) (by rfl) (by rfl) dX7_load_251 rfl ?_
                              refine v_iinc (pc' := 257) (x := i) (ls' := [gR 14, gI d, gI t, gI (σ0 15 6), gI w2, gI (m + 1), gI (i + 1), gI (σ0 22 i), gI (σ0 17 (σ0 22 i))]) (by omega) (by decide) (by rfl) (by rfl) dX7_load_254 rfl ?_
                              refine w_goto (pc' := 69) dX7_load_257 rfl ?_
                              refine Wp.lose (ls' := [gR 14, gI d, gI t, gI (σ0 15 6), gI w2, gI (m + 1), gI (i + 1), gX 1, gX 1]) ⟨.inr rfl, ⟨.inr rfl, ⟨.inr rfl, ⟨.inr rfl, ⟨.inr rfl, ⟨.inr rfl, ⟨.inr rfl, ⟨.inl rfl, ⟨.inl rfl, trivial⟩⟩⟩⟩⟩⟩⟩⟩⟩ ?_
                              exact ih_69 _ (by omega) (i + 1) w2 (m + 1) S2 (updI T m (σ0 17 (σ0 22 i))) (updI P m (σ0 18 (σ0 22 i))) rfl (by first | (exfalso; omega) | exact LDI.skip (by omega) (by unfold liv; omega) hl | exact LDJ.merge hI hj (by omega) ⟨by omega, by omega, by omega⟩ (by omega) (by omega) | exact LDJ.app hI hj (by omega) ⟨by omega, by omega, by omega⟩ (by omega))
                          · skip
                            refine w_aload_n (pc' := 195) (i := 0) (by rfl) (by rfl) dX7_load_194 rfl ?_
                            refine w_getS (pc' := 198) (q := 25) fg_X7_30 kd_14 sf_X7_4 gr_14_4 dX7_load_195 rfl ?_
                            refine w_iload (pc' := 200) (by rfl) dX7_load_198 rfl ?_
                            refine w_iconst (pc' := 201) (by decide) dX7_load_200 rfl ?_
                            refine v_isub (pc' := 202) (by omega) dX7_load_201 rfl ?_
                            refine w_dup2 (pc' := 203) dX7_load_202 rfl ?_
                            refine w_iald (pc' := 204) kd_25 (by have := lo; omega) (by have := lo; omega) dX7_load_203 rfl ?_
                            show Wp _ _ _ _ _ _ [gI (P (m - 1)), gI (m - 1), gR 25]
                            refine w_aload_n (pc' := 205) (i := 0) (by rfl) (by rfl) dX7_load_204 rfl ?_
                            refine w_getS (pc' := 208) (q := 15) fg_X7_14 kd_14 sf_X7_0 gr_14_0 dX7_load_205 rfl ?_
                            refine w_iload (pc' := 210) (by rfl) dX7_load_208 rfl ?_
                            refine v_callVE (pc' := 213) (st' := [gI (σ0 18 (σ0 22 i)), gI (P (m - 1)), gI (m - 1), gR 25]) (d' := 0) (av := [gI (σ0 22 i)]) mi_mX9_share lk_X7_72 rfl ci_X9 kd_15 rfl (Nat.le_of_ble_eq_true rfl) (Nat.le_of_ble_eq_true rfl) dX7_load_210 rfl rfl (hmP (F := fun z => gI (z 18 (σ0 22 i))) (((hm_ur (hm_nfC 25 (by decide))).trans ((hm_ur (hm_nfC 24 (by decide))).trans ((hm_ur (hm_nfC 23 (by decide))).trans ((hm_up (hm_nfC 14 (by decide) _)).trans ((hm_up (hm_nfC 14 (by decide) _)).trans ((hm_up (hm_nfC 14 (by decide) _)).trans ((hm_up (hm_nfC 14 (by decide) _)).trans hq.1)))))))) (fun _ => rfl) (sp_share sp_15 (gUr (gUr (gUr (gUp (gUp (gUp (gUp σ 14 5 d) 14 6 t) 14 7 (σ0 15 6)) 14 12 0) 23 S2) 24 T) 25 P) (i := σ0 22 i) (by omega) (by omega))) ?_
                            refine v_iadd (pc' := 214) (by have := big (by omega); omega) dX7_load_213 rfl ?_
                            refine w_iast (pc' := 215) kd_25 (by have := lo; omega) (by have := lo; omega) dX7_load_214 rfl ?_
                            refine Wp.heq (σ' := gUr (gUr (gUr (gUp (gUp (gUp (gUp σ 14 5 d) 14 6 t) 14 7 (σ0 15 6)) 14 12 0) 23 S2) 24 T) 25 (updI P (m - 1) ((P (m - 1)) + (σ0 18 (σ0 22 i))))) gUp_row ?_
                            refine w_goto (pc' := 254) dX7_load_215 rfl ?_
                            refine v_iinc (pc' := 257) (x := i) (ls' := [gR 14, gI d, gI t, gI (σ0 15 6), gI w2, gI m, gI (i + 1), gI (σ0 22 i), gI (σ0 17 (σ0 22 i))]) (by omega) (by decide) (by rfl) (by rfl) dX7_load_254 rfl ?_
                            refine w_goto (pc' := 69) dX7_load_257 rfl ?_
                            refine Wp.lose (ls' := [gR 14, gI d, gI t, gI (σ0 15 6), gI w2, gI m, gI (i + 1), gX 1, gX 1]) ⟨.inr rfl, ⟨.inr rfl, ⟨.inr rfl, ⟨.inr rfl, ⟨.inr rfl, ⟨.inr rfl, ⟨.inr rfl, ⟨.inl rfl, ⟨.inl rfl, trivial⟩⟩⟩⟩⟩⟩⟩⟩⟩ ?_
                            exact ih_69 _ (by omega) (i + 1) w2 m S2 T (updI P (m - 1) ((P (m - 1)) + (σ0 18 (σ0 22 i)))) rfl (by first | (exfalso; omega) | exact LDI.skip (by omega) (by unfold liv; omega) hl | exact LDJ.merge hI hj (by omega) ⟨by omega, by omega, by omega⟩ (by omega) (by omega) | exact LDJ.app hI hj (by omega) ⟨by omega, by omega, by omega⟩ (by omega))
                      · skip
                        refine v_iinc (pc' := 145) (x := w2) (ls' := [gR 14, gI d, gI t, gI (σ0 15 6), gI (w2 + 1), gI m, gI i, gI (σ0 22 i), gX 1]) (by omega) (by decide) (by rfl) (by rfl) dX7_load_142 rfl ?_
                        refine w_aload_n (pc' := 146) (i := 0) (by rfl) (by rfl) dX7_load_145 rfl ?_
                        refine w_getS (pc' := 149) (q := 23) fg_X7_24 kd_14 sf_X7_2 gr_14_2 dX7_load_146 rfl ?_
                        refine w_iload (pc' := 151) (by rfl) dX7_load_149 rfl ?_
                        refine w_iload (pc' := 153) (by rfl) dX7_load_151 rfl ?_
                        refine w_iast (pc' := 154) kd_23 (by omega) (by omega) dX7_load_153 rfl ?_
                        refine Wp.heq (σ' := gUr (gUr (gUr (gUp (gUp (gUp (gUp σ 14 5 d) 14 6 t) 14 7 (σ0 15 6)) 14 12 0) 23 (updI S2 (w2 + 1) m)) 24 T) 25 P) ((gUp_cr (by decide)).trans (congrArg (fun z => gUr z 25 P) ((gUp_cr (by decide)).trans (congrArg (fun z => gUr z 24 T) gUp_row)))) ?_
                        refine w_goto (pc' := 121) dX7_load_154 rfl ?_
                        exact ih_121 _ (by omega) (w2 + 1) (updI S2 (w2 + 1) m) rfl (by exact hj.up hI (by omega))
                exact hl_121 _ w S rfl (by exact LDI.live (by omega) hl)
              · skip
                refine w_goto (pc' := 254) dX7_load_118 rfl ?_
                refine v_iinc (pc' := 257) (x := i) (ls' := [gR 14, gI d, gI t, gI (σ0 15 6), gI w, gI m, gI (i + 1), gI (σ0 22 i), gX 1]) (by omega) (by decide) (by rfl) (by rfl) dX7_load_254 rfl ?_
                refine w_goto (pc' := 69) dX7_load_257 rfl ?_
                refine Wp.lose (ls' := [gR 14, gI d, gI t, gI (σ0 15 6), gI w, gI m, gI (i + 1), gX 1, gX 1]) ⟨.inr rfl, ⟨.inr rfl, ⟨.inr rfl, ⟨.inr rfl, ⟨.inr rfl, ⟨.inr rfl, ⟨.inr rfl, ⟨.inl rfl, ⟨.inr rfl, trivial⟩⟩⟩⟩⟩⟩⟩⟩⟩ ?_
                exact ih_69 _ (by omega) (i + 1) w m S T P rfl (by first | (exfalso; omega) | exact LDI.skip (by omega) (by unfold liv; omega) hl | exact LDJ.merge hI hj (by omega) ⟨by omega, by omega, by omega⟩ (by omega) (by omega) | exact LDJ.app hI hj (by omega) ⟨by omega, by omega, by omega⟩ (by omega))
    refine Wp.heq (σ' := gUr (gUr (gUr (gUp (gUp (gUp (gUp σ 14 5 d) 14 6 t) 14 7 (σ0 15 6)) 14 12 0) 23 (updI (σ 23) 0 0)) 24 (σ 24)) 25 (σ 25)) (rows2 (σ := gUp (gUp (gUp (gUp σ 14 5 d) 14 6 t) 14 7 (σ0 15 6)) 14 12 0) (a := 23) (b := 24) (c := 25) (f := updI (σ 23) 0 0) (by decide) (by decide)).symm ?_
    exact hl_69 _ 0 0 0 (updI (σ 23) 0 0) (σ 24) (σ 25) rfl (by exact LDI.start hI updI_eq)
  refine w_iload_n (pc' := 9) (i := 1) (by rfl) (by rfl) dX7_load_8 rfl ?_
  refine w_aload_n (pc' := 10) (i := 0) (by rfl) (by rfl) dX7_load_9 rfl ?_
  refine v_getI (pc' := 13) (ji := 5) rfl fg_X7_33 kd_14 dX7_load_10 rfl ?_
  refine w_icmp_ne (pc' := 16) (t := 33) dX7_load_13 rfl rfl (fun c_13 => ?_) (fun c_13 => ?_)
  · skip
    exact hj_33
  · skip
    refine w_iload_n (pc' := 17) (i := 2) (by rfl) (by rfl) dX7_load_16 rfl ?_
    refine w_aload_n (pc' := 18) (i := 0) (by rfl) (by rfl) dX7_load_17 rfl ?_
    refine v_getI (pc' := 21) (ji := 6) rfl fg_X7_85 kd_14 dX7_load_18 rfl ?_
    refine w_icmp_ne (pc' := 24) (t := 33) dX7_load_21 rfl rfl (fun c_21 => ?_) (fun c_21 => ?_)
    · skip
      exact hj_33
    · skip
      refine w_iload_n (pc' := 25) (i := 3) (by rfl) (by rfl) dX7_load_24 rfl ?_
      refine w_aload_n (pc' := 26) (i := 0) (by rfl) (by rfl) dX7_load_25 rfl ?_
      refine v_getI (pc' := 29) (ji := 7) rfl fg_X7_37 kd_14 dX7_load_26 rfl ?_
      refine w_icmp_ne (pc' := 32) (t := 33) dX7_load_29 rfl rfl (fun c_29 => ?_) (fun c_29 => ?_)
      · skip
        exact hj_33
      · skip
        refine w_return rfl dX7_load_32 ?_
        have a := hq.2.2.2 (by rw [hq.rd (k := 15) (i := 6) (.inr rfl)]; omega)
        rw [AR_hm hq.1, show σ 14 5 = d by omega, show σ 14 6 = t by omega] at a
        exact ⟨rfl, hq, Kp.refl, fun _ _ _ => rfl, by omega, by omega, by omega, a.1⟩
