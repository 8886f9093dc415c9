/-! judged: the call that may throw (gen/mod_jud.py) -/
noncomputable def JDG (σ : gH) (g t w : Int) : Int := if w = 0 then STV σ g t else if w = 1 then RULE σ g t else if w = 2 then DUE σ g t else if w = 3 then LEAST σ g t else if w = 4 then MOST σ g t else if w = 5 then BACK σ g t else if w = 6 then TOLD σ g t else if w = 7 then SUMV σ (σ 43 g) (σ 42 g) (σ 45 g) t (LI σ (σ 45 g) t) else CNTV σ (σ 43 g) (σ 42 g) (σ 45 g) t (LI σ (σ 45 g) t)
theorem qo_isKnown {σ0 σ : gH} (hI : Inv σ0) (hq : QM σ0 σ) (g t : Int) : Mt mX12_isKnown 1 [gR 133, gI g, gI t] σ (rE (gI (gb ((0 ≤ g ∧ g < σ0 41 11) ∧ σ0 49 g ≤ t))) σ) := by
  refine Mt.walk (ls := [gR 133, gI g, gI t]) pn_X12 rfl (fun _ _ h => by cases h.1) (Nat.le_of_ble_eq_true rfl) rfl ?_
  have hz0 := hI.f.hz
  refine w_aload_n (pc' := 1) (i := 0) (by rfl) (by rfl) dX12_isKnown_0 rfl ?_
  refine w_iload_n (pc' := 2) (i := 1) (by rfl) (by rfl) dX12_isKnown_1 rfl ?_
  refine v_callVE (pc' := 5) (st' := [gI (gb (0 ≤ g ∧ g < σ0 41 11))]) (d' := 0) (av := [gI g]) mi_mX12_isGift lk_X12_316 rfl ci_X12 kd_133 rfl (Nat.le_of_ble_eq_true rfl) (Nat.le_of_ble_eq_true rfl) dX12_isKnown_2 rfl rfl (qo_isGift hI hq.1 g) ?_
  refine v_if_eqB (pc' := 8) (t := 22) dX12_isKnown_5 rfl rfl (fun c_5 => ?_) (fun c_5 => ?_)
  · skip
    refine w_iconst (pc' := 23) (by decide) dX12_isKnown_22 rfl ?_
    refine w_zreturn rfl (.inl rfl) dX12_isKnown_23 ?_
    first | (exfalso; omega) | exact ⟨congrArg gI (gb_t (by omega)).symm, rfl⟩ | exact ⟨congrArg gI (gb_f (by omega)).symm, rfl⟩
  · skip
    refine w_aload_n (pc' := 9) (i := 0) (by rfl) (by rfl) dX12_isKnown_8 rfl ?_
    refine w_getS (pc' := 12) (q := 159) fg_X12_90 kd_133 sf_X12_33 gr_133_33 dX12_isKnown_9 rfl ?_
    refine w_iload_n (pc' := 13) (i := 1) (by rfl) (by rfl) dX12_isKnown_12 rfl ?_
    refine w_iald (pc' := 14) kd_159 (by omega) (by omega) dX12_isKnown_13 rfl ?_
    rw [(hq).rd (k := 159) (i := g) (.inr rfl)]
    rw [hI.e159 (i := g) (by omega) (by omega)]
    refine w_iload_n (pc' := 15) (i := 2) (by rfl) (by rfl) dX12_isKnown_14 rfl ?_
    refine w_icmp_gt (pc' := 18) (t := 22) dX12_isKnown_15 rfl rfl (fun c_15 => ?_) (fun c_15 => ?_)
    · skip
      refine w_iconst (pc' := 23) (by decide) dX12_isKnown_22 rfl ?_
      refine w_zreturn rfl (.inl rfl) dX12_isKnown_23 ?_
      first | (exfalso; omega) | exact ⟨congrArg gI (gb_t (by omega)).symm, rfl⟩ | exact ⟨congrArg gI (gb_f (by omega)).symm, rfl⟩
    · skip
      refine w_iconst (pc' := 19) (by decide) dX12_isKnown_18 rfl ?_
      refine w_goto (pc' := 23) dX12_isKnown_19 rfl ?_
      refine w_zreturn rfl (.inr rfl) dX12_isKnown_23 ?_
      first | (exfalso; omega) | exact ⟨congrArg gI (gb_t (by omega)).symm, rfl⟩ | exact ⟨congrArg gI (gb_f (by omega)).symm, rfl⟩
theorem k_answerFor {σ0 σ : gH} (hI : Inv σ0) (hq : QC σ0 σ) (g t w : Int) (hg : 0 ≤ g ∧ g < σ0 41 11) (hw : w = 0 ∨ w = 1 ∨ w = 2 ∨ w = 7 ∨ w = 8) : Mt mX3_answerFor 6 [gR 110, gI g, gI t, gI w] σ (fun v σ' => v = gI (JDG σ0 g t w) ∧ QC σ0 σ') := by
  refine Mt.walk (ls := [gR 110, gI g, gI t, gI w]) pn_X3 rfl (fun _ _ h => by cases h.1) (Nat.le_of_ble_eq_true rfl) rfl ?_
  refine w_aload_n (pc' := 1) (i := 0) (by rfl) (by rfl) dX3_answerFor_0 rfl ?_
  refine w_iload_n (pc' := 2) (i := 1) (by rfl) (by rfl) dX3_answerFor_1 rfl ?_
  refine w_iload_n (pc' := 3) (i := 2) (by rfl) (by rfl) dX3_answerFor_2 rfl ?_
  refine w_callV (pc' := 6) (d' := 5) (av := [gI g, gI t]) mi_mX3_decide lk_X3_39 rfl ci_X3 kd_110 rfl (Nat.le_of_ble_eq_true rfl) (Nat.le_of_ble_eq_true rfl) dX3_answerFor_3 rfl (k_decide hI hq g t ⟨by omega, by omega⟩ rfl) (fun v_3 σ3 q_3 => ?_)
  obtain ⟨rfl, hq_3, hk_3, hr_3, hd_3, hs_3, hc_3⟩ := q_3
  show Wp _ _ _ _ _ _ []
  refine w_iload_n (pc' := 7) (i := 3) (by rfl) (by rfl) dX3_answerFor_6 rfl ?_
  by_cases c_7 : w < 0 ∨ 7 < w
  · refine w_tableOut (pc' := 77) dX3_answerFor_7 c_7 rfl ?_
    refine w_aload_n (pc' := 78) (i := 0) (by rfl) (by rfl) dX3_answerFor_77 rfl ?_
    refine w_getS (pc' := 81) (q := 111) fg_X3_9 kd_110 sf_X3_6 gr_110_6 dX3_answerFor_78 rfl ?_
    refine w_bipush (pc' := 83) (by decide) (by decide) dX3_answerFor_81 rfl ?_
    refine w_iald (pc' := 84) kd_111 (by omega) (by omega) dX3_answerFor_83 rfl ?_
    refine v_ireturn rfl dX3_answerFor_84 ?_
    first | (exfalso; omega) | exact ⟨by rw [show w = 8 by omega]; exact congrArg gI hc_3, hq_3⟩
  · rcases (show w = 0 ∨ w = 1 ∨ w = 2 ∨ w = 3 ∨ w = 4 ∨ w = 5 ∨ w = 6 ∨ w = 7 by omega) with c_7 | c_7 | c_7 | c_7 | c_7 | c_7 | c_7 | c_7
    · refine w_tableIn (pc' := 52) (off := 45) dX3_answerFor_7 (by omega) (by omega) (by rw [c_7]; rfl) rfl ?_
      refine w_aload_n (pc' := 53) (i := 0) (by rfl) (by rfl) dX3_answerFor_52 rfl ?_
      refine w_iload_n (pc' := 54) (i := 1) (by rfl) (by rfl) dX3_answerFor_53 rfl ?_
      refine w_iload_n (pc' := 55) (i := 2) (by rfl) (by rfl) dX3_answerFor_54 rfl ?_
      refine v_callVE (pc' := 58) (st' := [gI (STV σ0 g t)]) (d' := 3) (av := [gI g, gI t]) mi_mX3_stateOf lk_X3_43 rfl ci_X3 kd_110 rfl (Nat.le_of_ble_eq_true rfl) (Nat.le_of_ble_eq_true rfl) dX3_answerFor_55 rfl rfl (k_stateOf hI hq_3 g t ⟨by omega, by omega⟩ hr_3 hd_3) ?_
      refine v_ireturn rfl dX3_answerFor_58 ?_
      exact ⟨by rw [show w = 0 by omega]; rfl, hq_3⟩
    · refine w_tableIn (pc' := 59) (off := 52) dX3_answerFor_7 (by omega) (by omega) (by rw [c_7]; rfl) rfl ?_
      refine w_aload_n (pc' := 60) (i := 0) (by rfl) (by rfl) dX3_answerFor_59 rfl ?_
      refine v_getI (pc' := 63) (ji := 7) rfl fg_X3_47 kd_110 dX3_answerFor_60 rfl ?_
      refine v_ireturn rfl dX3_answerFor_63 ?_
      first | (exfalso; omega) | exact ⟨by rw [show w = 1 by omega]; exact congrArg gI hr_3, hq_3⟩
    · refine w_tableIn (pc' := 64) (off := 57) dX3_answerFor_7 (by omega) (by omega) (by rw [c_7]; rfl) rfl ?_
      refine w_aload_n (pc' := 65) (i := 0) (by rfl) (by rfl) dX3_answerFor_64 rfl ?_
      refine v_getI (pc' := 68) (ji := 8) rfl fg_X3_51 kd_110 dX3_answerFor_65 rfl ?_
      refine v_ireturn rfl dX3_answerFor_68 ?_
      first | (exfalso; omega) | exact ⟨by rw [show w = 2 by omega]; exact congrArg gI hd_3, hq_3⟩
    · refine w_tableIn (pc' := 77) (off := 70) dX3_answerFor_7 (by omega) (by omega) (by rw [c_7]; rfl) rfl ?_
      refine w_aload_n (pc' := 78) (i := 0) (by rfl) (by rfl) dX3_answerFor_77 rfl ?_
      refine w_getS (pc' := 81) (q := 111) fg_X3_9 kd_110 sf_X3_6 gr_110_6 dX3_answerFor_78 rfl ?_
      refine w_bipush (pc' := 83) (by decide) (by decide) dX3_answerFor_81 rfl ?_
      refine w_iald (pc' := 84) kd_111 (by omega) (by omega) dX3_answerFor_83 rfl ?_
      refine v_ireturn rfl dX3_answerFor_84 ?_
      first | (exfalso; omega) | exact ⟨by rw [show w = 8 by omega]; exact congrArg gI hc_3, hq_3⟩
    · refine w_tableIn (pc' := 77) (off := 70) dX3_answerFor_7 (by omega) (by omega) (by rw [c_7]; rfl) rfl ?_
      refine w_aload_n (pc' := 78) (i := 0) (by rfl) (by rfl) dX3_answerFor_77 rfl ?_
      refine w_getS (pc' := 81) (q := 111) fg_X3_9 kd_110 sf_X3_6 gr_110_6 dX3_answerFor_78 rfl ?_
      refine w_bipush (pc' := 83) (by decide) (by decide) dX3_answerFor_81 rfl ?_
      refine w_iald (pc' := 84) kd_111 (by omega) (by omega) dX3_answerFor_83 rfl ?_
      refine v_ireturn rfl dX3_answerFor_84 ?_
      first | (exfalso; omega) | exact ⟨by rw [show w = 8 by omega]; exact congrArg gI hc_3, hq_3⟩
    · refine w_tableIn (pc' := 77) (off := 70) dX3_answerFor_7 (by omega) (by omega) (by rw [c_7]; rfl) rfl ?_
      refine w_aload_n (pc' := 78) (i := 0) (by rfl) (by rfl) dX3_answerFor_77 rfl ?_
      refine w_getS (pc' := 81) (q := 111) fg_X3_9 kd_110 sf_X3_6 gr_110_6 dX3_answerFor_78 rfl ?_
      refine w_bipush (pc' := 83) (by decide) (by decide) dX3_answerFor_81 rfl ?_
      refine w_iald (pc' := 84) kd_111 (by omega) (by omega) dX3_answerFor_83 rfl ?_
      refine v_ireturn rfl dX3_answerFor_84 ?_
      first | (exfalso; omega) | exact ⟨by rw [show w = 8 by omega]; exact congrArg gI hc_3, hq_3⟩
    · refine w_tableIn (pc' := 77) (off := 70) dX3_answerFor_7 (by omega) (by omega) (by rw [c_7]; rfl) rfl ?_
      refine w_aload_n (pc' := 78) (i := 0) (by rfl) (by rfl) dX3_answerFor_77 rfl ?_
      refine w_getS (pc' := 81) (q := 111) fg_X3_9 kd_110 sf_X3_6 gr_110_6 dX3_answerFor_78 rfl ?_
      refine w_bipush (pc' := 83) (by decide) (by decide) dX3_answerFor_81 rfl ?_
      refine w_iald (pc' := 84) kd_111 (by omega) (by omega) dX3_answerFor_83 rfl ?_
      refine v_ireturn rfl dX3_answerFor_84 ?_
      first | (exfalso; omega) | exact ⟨by rw [show w = 8 by omega]; exact congrArg gI hc_3, hq_3⟩
    · refine w_tableIn (pc' := 69) (off := 62) dX3_answerFor_7 (by omega) (by omega) (by rw [c_7]; rfl) rfl ?_
      refine w_aload_n (pc' := 70) (i := 0) (by rfl) (by rfl) dX3_answerFor_69 rfl ?_
      refine w_getS (pc' := 73) (q := 111) fg_X3_9 kd_110 sf_X3_6 gr_110_6 dX3_answerFor_70 rfl ?_
      refine w_bipush (pc' := 75) (by decide) (by decide) dX3_answerFor_73 rfl ?_
      refine w_iald (pc' := 76) kd_111 (by omega) (by omega) dX3_answerFor_75 rfl ?_
      refine v_ireturn rfl dX3_answerFor_76 ?_
      first | (exfalso; omega) | exact ⟨by rw [show w = 7 by omega]; exact congrArg gI hs_3, hq_3⟩
theorem site_judged : tx_Site mX11_judged 22 := ⟨185, 202, 189, "no such gift is known then, or no such answer", ex_cn, by decide, ex_atm, ex_ot, dX11_judged_22, dX11_judged_25, Or.inl ⟨dX11_judged_26, dX11_judged_28, dX11_judged_31⟩⟩
theorem xu_judged {σ0 : gH} (hI : Inv σ0) (g t w : Int) : Up mX11_judged 30 (fun v σ' => ((((0 ≤ g ∧ g < σ0 41 11) ∧ σ0 49 g ≤ t) ∧ 0 ≤ w ∧ w ≤ 8) ∧ v = gI (JDG σ0 g t w) ∧ QC σ0 σ') ∨ (¬ (((0 ≤ g ∧ g < σ0 41 11) ∧ σ0 49 g ≤ t) ∧ 0 ≤ w ∧ w ≤ 8) ∧ v = gX (22 + 9) ∧ QC σ0 σ')) σ0 0 [gR 0, gI g, gI t, gI w] [] := by
  have hz0 := hI.f.hz
  refine u_aload_n (pc' := 1) (i := 0) (by rfl) (by rfl) dX11_judged_0 rfl ?_
  refine u_getS (pc' := 4) (q := 41) fg_X11_51 kd_0 sf_X11_9 gr_0_9 dX11_judged_1 rfl ?_
  refine u_iload_n (pc' := 5) (i := 1) (by rfl) (by rfl) dX11_judged_4 rfl ?_
  refine u_iload_n (pc' := 6) (i := 2) (by rfl) (by rfl) dX11_judged_5 rfl ?_
  refine uv_callVE (pc' := 9) (st' := [gI (gb ((0 ≤ g ∧ g < σ0 41 11) ∧ σ0 49 g ≤ t))]) (d' := 1) (av := [gI g, gI t]) mi_mX2_isKnown lk_X11_199 rfl ci_X2 kd_41 rfl (Nat.le_of_ble_eq_true rfl) (Nat.le_of_ble_eq_true rfl) dX11_judged_6 rfl rfl (hmP (F := fun z => gI (gb ((0 ≤ g ∧ g < z 41 11) ∧ z 49 g ≤ t))) ((QC.refl hI).1) (fun _ => rfl) (g_isKnown σ0 (hm_FA ((QC.refl hI).1) hI.1).1.hz g t)) ?_
  refine uv_if_eqB (pc' := 12) (t := 22) dX11_judged_9 rfl rfl (fun c_9 => ?_) (fun c_9 => ?_)
  · skip
    refine u_throw (i := 185) dX11_judged_22 ?_
    exact Or.inr ⟨by omega, rfl, QC.refl hI⟩
  · skip
    refine u_iload_n (pc' := 13) (i := 3) (by rfl) (by rfl) dX11_judged_12 rfl ?_
    refine u_if_lt (pc' := 16) (t := 22) dX11_judged_13 rfl rfl (fun c_13 => ?_) (fun c_13 => ?_)
    · skip
      refine u_throw (i := 185) dX11_judged_22 ?_
      exact Or.inr ⟨by omega, rfl, QC.refl hI⟩
    · skip
      refine u_iload_n (pc' := 17) (i := 3) (by rfl) (by rfl) dX11_judged_16 rfl ?_
      refine u_bipush (pc' := 19) (by decide) (by decide) dX11_judged_17 rfl ?_
      refine u_icmp_le (pc' := 22) (t := 32) dX11_judged_19 rfl rfl (fun c_19 => ?_) (fun c_19 => ?_)
      · skip
        refine u_iload_n (pc' := 33) (i := 3) (by rfl) (by rfl) dX11_judged_32 rfl ?_
        by_cases c_33 : w < 3 ∨ 6 < w
        · refine u_tableOut (pc' := 104) dX11_judged_33 c_33 rfl ?_
          refine u_aload_n (pc' := 105) (i := 0) (by rfl) (by rfl) dX11_judged_104 rfl ?_
          refine u_getS (pc' := 108) (q := 110) fg_X11_67 kd_0 sf_X11_11 gr_0_11 dX11_judged_105 rfl ?_
          refine u_iload_n (pc' := 109) (i := 1) (by rfl) (by rfl) dX11_judged_108 rfl ?_
          refine u_iload_n (pc' := 110) (i := 2) (by rfl) (by rfl) dX11_judged_109 rfl ?_
          refine u_iload_n (pc' := 111) (i := 3) (by rfl) (by rfl) dX11_judged_110 rfl ?_
          refine u_callV (pc' := 114) (d' := 6) (av := [gI g, gI t, gI w]) mi_mX3_answerFor lk_X11_217 rfl ci_X3 kd_110 rfl (Nat.le_of_ble_eq_true rfl) (Nat.le_of_ble_eq_true rfl) dX11_judged_111 rfl (k_answerFor hI (QC.refl hI) g t w ⟨by omega, by omega⟩ (by omega)) (fun v_111 σ111 q_111 => ?_)
          obtain ⟨rfl, hq_111⟩ := q_111
          show Up _ _ _ _ _ _ [gI (JDG σ0 g t w)]
          refine uv_ireturn rfl dX11_judged_114 ?_
          exact Or.inl ⟨by omega, rfl, hq_111⟩
        · rcases (show w = 3 ∨ w = 4 ∨ w = 5 ∨ w = 6 by omega) with c_33 | c_33 | c_33 | c_33
          · refine u_tableIn (pc' := 64) (off := 31) dX11_judged_33 (by omega) (by omega) (by rw [c_33]; rfl) rfl ?_
            refine u_aload_n (pc' := 65) (i := 0) (by rfl) (by rfl) dX11_judged_64 rfl ?_
            refine u_getS (pc' := 68) (q := 41) fg_X11_51 kd_0 sf_X11_9 gr_0_9 dX11_judged_65 rfl ?_
            refine u_iload_n (pc' := 69) (i := 1) (by rfl) (by rfl) dX11_judged_68 rfl ?_
            refine u_iload_n (pc' := 70) (i := 2) (by rfl) (by rfl) dX11_judged_69 rfl ?_
            refine uv_callVE (pc' := 73) (st' := [gI (LEAST σ0 g t)]) (d' := 2) (av := [gI g, gI t]) mi_mX2_leastOf lk_X11_204 rfl ci_X2 kd_41 rfl (Nat.le_of_ble_eq_true rfl) (Nat.le_of_ble_eq_true rfl) dX11_judged_70 rfl rfl (hmP (F := fun z => gI (LEAST z g t)) ((QC.refl hI).1) (fun _ => rfl) (g_leastOf σ0 (hm_FA ((QC.refl hI).1) hI.1).1.hz g t (gr_n ((QC.refl hI).1) ⟨by omega, by omega⟩))) ?_
            refine uv_ireturn rfl dX11_judged_73 ?_
            exact Or.inl ⟨by omega, by rw [show w = 3 by omega]; rfl, QC.refl hI⟩
          · refine u_tableIn (pc' := 74) (off := 41) dX11_judged_33 (by omega) (by omega) (by rw [c_33]; rfl) rfl ?_
            refine u_aload_n (pc' := 75) (i := 0) (by rfl) (by rfl) dX11_judged_74 rfl ?_
            refine u_getS (pc' := 78) (q := 41) fg_X11_51 kd_0 sf_X11_9 gr_0_9 dX11_judged_75 rfl ?_
            refine u_iload_n (pc' := 79) (i := 1) (by rfl) (by rfl) dX11_judged_78 rfl ?_
            refine u_iload_n (pc' := 80) (i := 2) (by rfl) (by rfl) dX11_judged_79 rfl ?_
            refine uv_callVE (pc' := 83) (st' := [gI (MOST σ0 g t)]) (d' := 2) (av := [gI g, gI t]) mi_mX2_mostOf lk_X11_208 rfl ci_X2 kd_41 rfl (Nat.le_of_ble_eq_true rfl) (Nat.le_of_ble_eq_true rfl) dX11_judged_80 rfl rfl (hmP (F := fun z => gI (MOST z g t)) ((QC.refl hI).1) (fun _ => rfl) (g_mostOf σ0 (hm_FA ((QC.refl hI).1) hI.1).1.hz g t (gr_n ((QC.refl hI).1) ⟨by omega, by omega⟩))) ?_
            refine uv_ireturn rfl dX11_judged_83 ?_
            exact Or.inl ⟨by omega, by rw [show w = 4 by omega]; rfl, QC.refl hI⟩
          · refine u_tableIn (pc' := 84) (off := 51) dX11_judged_33 (by omega) (by omega) (by rw [c_33]; rfl) rfl ?_
            refine u_aload_n (pc' := 85) (i := 0) (by rfl) (by rfl) dX11_judged_84 rfl ?_
            refine u_getS (pc' := 88) (q := 41) fg_X11_51 kd_0 sf_X11_9 gr_0_9 dX11_judged_85 rfl ?_
            refine u_iload_n (pc' := 89) (i := 1) (by rfl) (by rfl) dX11_judged_88 rfl ?_
            refine u_iload_n (pc' := 90) (i := 2) (by rfl) (by rfl) dX11_judged_89 rfl ?_
            refine uv_callVE (pc' := 93) (st' := [gI (BACK σ0 g t)]) (d' := 1) (av := [gI g, gI t]) mi_mX2_backOn lk_X11_211 rfl ci_X2 kd_41 rfl (Nat.le_of_ble_eq_true rfl) (Nat.le_of_ble_eq_true rfl) dX11_judged_90 rfl rfl (hmP (F := fun z => gI (BACK z g t)) ((QC.refl hI).1) (fun _ => rfl) (g_backOn σ0 (hm_FA ((QC.refl hI).1) hI.1).1.hz g t (gr_n ((QC.refl hI).1) ⟨by omega, by omega⟩))) ?_
            refine uv_ireturn rfl dX11_judged_93 ?_
            exact Or.inl ⟨by omega, by rw [show w = 5 by omega]; rfl, QC.refl hI⟩
          · refine u_tableIn (pc' := 94) (off := 61) dX11_judged_33 (by omega) (by omega) (by rw [c_33]; rfl) rfl ?_
            refine u_aload_n (pc' := 95) (i := 0) (by rfl) (by rfl) dX11_judged_94 rfl ?_
            refine u_getS (pc' := 98) (q := 41) fg_X11_51 kd_0 sf_X11_9 gr_0_9 dX11_judged_95 rfl ?_
            refine u_iload_n (pc' := 99) (i := 1) (by rfl) (by rfl) dX11_judged_98 rfl ?_
            refine u_iload_n (pc' := 100) (i := 2) (by rfl) (by rfl) dX11_judged_99 rfl ?_
            refine uv_callVE (pc' := 103) (st' := [gI (TOLD σ0 g t)]) (d' := 1) (av := [gI g, gI t]) mi_mX2_toldOn lk_X11_214 rfl ci_X2 kd_41 rfl (Nat.le_of_ble_eq_true rfl) (Nat.le_of_ble_eq_true rfl) dX11_judged_100 rfl rfl (hmP (F := fun z => gI (TOLD z g t)) ((QC.refl hI).1) (fun _ => rfl) (g_toldOn σ0 (hm_FA ((QC.refl hI).1) hI.1).1.hz g t (gr_n ((QC.refl hI).1) ⟨by omega, by omega⟩))) ?_
            refine uv_ireturn rfl dX11_judged_103 ?_
            exact Or.inl ⟨by omega, by rw [show w = 6 by omega]; rfl, QC.refl hI⟩
      · skip
        refine u_throw (i := 185) dX11_judged_22 ?_
        exact Or.inr ⟨by omega, rfl, QC.refl hI⟩
theorem m_judged {σ0 : gH} (hI : Inv σ0) (g t w : Int) : Mt mX12_judged 30 [gR 133, gI g, gI t, gI w] σ0 (fun v σ' => (((((0 ≤ g ∧ g < σ0 41 11) ∧ σ0 49 g ≤ t) ∧ 0 ≤ w ∧ w ≤ 8) ∧ v = gI (JDG σ0 g t w) ∧ σ' 133 0 = 0) ∨ (¬ (((0 ≤ g ∧ g < σ0 41 11) ∧ σ0 49 g ≤ t) ∧ 0 ≤ w ∧ w ≤ 8) ∧ v = gI 0 ∧ σ' 133 0 = 1)) ∧ QM σ0 σ' ∧ σ' 208 = σ0 208) := by
  refine Mt.walk (ls := [gR 133, gI g, gI t, gI w]) pn_X12 rfl (fun _ _ h => by rcases h.1 with h | h <;> cases h.2.1) (Nat.le_of_ble_eq_true rfl) rfl ?_
  have hz0 := hI.f.hz
  refine w_aload_n (pc' := 1) (i := 0) (by rfl) (by rfl) dX12_judged_0 rfl ?_
  refine w_iload_n (pc' := 2) (i := 1) (by rfl) (by rfl) dX12_judged_1 rfl ?_
  refine w_iload_n (pc' := 3) (i := 2) (by rfl) (by rfl) dX12_judged_2 rfl ?_
  refine v_callVE (pc' := 6) (st' := [gI (gb ((0 ≤ g ∧ g < σ0 41 11) ∧ σ0 49 g ≤ t))]) (d' := 1) (av := [gI g, gI t]) mi_mX12_isKnown lk_X12_534 rfl ci_X12 kd_133 rfl (Nat.le_of_ble_eq_true rfl) (Nat.le_of_ble_eq_true rfl) dX12_judged_3 rfl rfl (qo_isKnown hI (QM.refl hI) g t) ?_
  refine v_if_eqB (pc' := 9) (t := 19) dX12_judged_6 rfl rfl (fun c_6 => ?_) (fun c_6 => ?_)
  · skip
    refine w_aload_n (pc' := 20) (i := 0) (by rfl) (by rfl) dX12_judged_19 rfl ?_
    refine v_callVE (pc' := 23) (st' := [gI 0]) (d' := 0) (av := []) mi_mX12_refuse lk_X12_368 rfl ci_X12 kd_133 rfl (Nat.le_of_ble_eq_true rfl) (Nat.le_of_ble_eq_true rfl) dX12_judged_20 rfl rfl (q_refuse σ0) ?_
    refine v_ireturn rfl dX12_judged_23 ?_
    exact ⟨Or.inr ⟨by omega, rfl, rfl⟩, (QM.up (QM.refl hI) (by decide) (fun h => h)), rfl⟩
  · skip
    refine w_iload_n (pc' := 10) (i := 3) (by rfl) (by rfl) dX12_judged_9 rfl ?_
    refine w_if_lt (pc' := 13) (t := 19) dX12_judged_10 rfl rfl (fun c_10 => ?_) (fun c_10 => ?_)
    · skip
      refine w_aload_n (pc' := 20) (i := 0) (by rfl) (by rfl) dX12_judged_19 rfl ?_
      refine v_callVE (pc' := 23) (st' := [gI 0]) (d' := 0) (av := []) mi_mX12_refuse lk_X12_368 rfl ci_X12 kd_133 rfl (Nat.le_of_ble_eq_true rfl) (Nat.le_of_ble_eq_true rfl) dX12_judged_20 rfl rfl (q_refuse σ0) ?_
      refine v_ireturn rfl dX12_judged_23 ?_
      exact ⟨Or.inr ⟨by omega, rfl, rfl⟩, (QM.up (QM.refl hI) (by decide) (fun h => h)), rfl⟩
    · skip
      refine w_iload_n (pc' := 14) (i := 3) (by rfl) (by rfl) dX12_judged_13 rfl ?_
      refine w_bipush (pc' := 16) (by decide) (by decide) dX12_judged_14 rfl ?_
      refine w_icmp_le (pc' := 19) (t := 24) dX12_judged_16 rfl rfl (fun c_16 => ?_) (fun c_16 => ?_)
      · skip
        refine w_aload_n (pc' := 25) (i := 0) (by rfl) (by rfl) dX12_judged_24 rfl ?_
        refine w_iconst (pc' := 26) (by decide) dX12_judged_25 rfl ?_
        refine v_putI (pc' := 29) (ji := 0) rfl fp_X12_244 kd_133 sf_X12_0 dX12_judged_26 rfl ?_
        refine w_aload_n (pc' := 30) (i := 0) (by rfl) (by rfl) dX12_judged_29 rfl ?_
        refine w_iload_n (pc' := 31) (i := 1) (by rfl) (by rfl) dX12_judged_30 rfl ?_
        refine w_iload_n (pc' := 32) (i := 2) (by rfl) (by rfl) dX12_judged_31 rfl ?_
        refine w_callV (pc' := 35) (d' := 4) (av := [gI g, gI t]) mi_mX12_judge lk_X12_537 rfl ci_X12 kd_133 rfl (Nat.le_of_ble_eq_true rfl) (Nat.le_of_ble_eq_true rfl) dX12_judged_32 rfl (q_judge hI (QM.up (k := 133) (i := 0) (v := 0) (QM.refl hI) (by decide) (fun h => h)) g t ⟨by omega, by omega⟩ rfl) (fun v_32 σ32 q_32 => ?_)
        obtain ⟨rfl, hq_32, hr_32, hd_32, hs_32, hc_32, hx_32, hy_32⟩ := q_32
        show Wp _ _ _ _ _ _ []
        refine w_iload_n (pc' := 36) (i := 3) (by rfl) (by rfl) dX12_judged_35 rfl ?_
        by_cases c_36 : w < 0 ∨ 7 < w
        · refine w_tableOut (pc' := 137) dX12_judged_36 c_36 rfl ?_
          refine w_aload_n (pc' := 138) (i := 0) (by rfl) (by rfl) dX12_judged_137 rfl ?_
          refine w_getS (pc' := 141) (q := 187) fg_X12_181 kd_133 sf_X12_85 gr_133_85 dX12_judged_138 rfl ?_
          refine w_bipush (pc' := 143) (by decide) (by decide) dX12_judged_141 rfl ?_
          refine w_iald (pc' := 144) kd_187 (by omega) (by omega) dX12_judged_143 rfl ?_
          refine v_ireturn rfl dX12_judged_144 ?_
          first | (exfalso; omega) | exact ⟨Or.inl ⟨by omega, by rw [show w = 8 by omega]; exact congrArg gI hc_32, hx_32⟩, hq_32, hy_32⟩
        · rcases (show w = 0 ∨ w = 1 ∨ w = 2 ∨ w = 3 ∨ w = 4 ∨ w = 5 ∨ w = 6 ∨ w = 7 by omega) with c_36 | c_36 | c_36 | c_36 | c_36 | c_36 | c_36 | c_36
          · refine w_tableIn (pc' := 84) (off := 48) dX12_judged_36 (by omega) (by omega) (by rw [c_36]; rfl) rfl ?_
            refine w_aload_n (pc' := 85) (i := 0) (by rfl) (by rfl) dX12_judged_84 rfl ?_
            refine w_iload_n (pc' := 86) (i := 1) (by rfl) (by rfl) dX12_judged_85 rfl ?_
            refine w_iload_n (pc' := 87) (i := 2) (by rfl) (by rfl) dX12_judged_86 rfl ?_
            refine v_callVE (pc' := 90) (st' := [gI (STV σ0 g t)]) (d' := 3) (av := [gI g, gI t]) mi_mX12_stateOf lk_X12_540 rfl ci_X12 kd_133 rfl (Nat.le_of_ble_eq_true rfl) (Nat.le_of_ble_eq_true rfl) dX12_judged_87 rfl rfl (q_stateOf hI hq_32 g t ⟨by omega, by omega⟩ hr_32 hd_32) ?_
            refine v_ireturn rfl dX12_judged_90 ?_
            first | (exfalso; omega) | exact ⟨Or.inl ⟨by omega, by rw [show w = 0 by omega]; rfl, hx_32⟩, hq_32, hy_32⟩
          · refine w_tableIn (pc' := 91) (off := 55) dX12_judged_36 (by omega) (by omega) (by rw [c_36]; rfl) rfl ?_
            refine w_aload_n (pc' := 92) (i := 0) (by rfl) (by rfl) dX12_judged_91 rfl ?_
            refine v_getI (pc' := 95) (ji := 87) rfl fg_X12_522 kd_133 dX12_judged_92 rfl ?_
            refine v_ireturn rfl dX12_judged_95 ?_
            first | (exfalso; omega) | exact ⟨Or.inl ⟨by omega, by rw [show w = 1 by omega]; exact congrArg gI hr_32, hx_32⟩, hq_32, hy_32⟩
          · refine w_tableIn (pc' := 96) (off := 60) dX12_judged_36 (by omega) (by omega) (by rw [c_36]; rfl) rfl ?_
            refine w_aload_n (pc' := 97) (i := 0) (by rfl) (by rfl) dX12_judged_96 rfl ?_
            refine v_getI (pc' := 100) (ji := 88) rfl fg_X12_525 kd_133 dX12_judged_97 rfl ?_
            refine v_ireturn rfl dX12_judged_100 ?_
            first | (exfalso; omega) | exact ⟨Or.inl ⟨by omega, by rw [show w = 2 by omega]; exact congrArg gI hd_32, hx_32⟩, hq_32, hy_32⟩
          · refine w_tableIn (pc' := 101) (off := 65) dX12_judged_36 (by omega) (by omega) (by rw [c_36]; rfl) rfl ?_
            refine w_aload_n (pc' := 102) (i := 0) (by rfl) (by rfl) dX12_judged_101 rfl ?_
            refine w_iload_n (pc' := 103) (i := 1) (by rfl) (by rfl) dX12_judged_102 rfl ?_
            refine w_iload_n (pc' := 104) (i := 2) (by rfl) (by rfl) dX12_judged_103 rfl ?_
            refine v_callVE (pc' := 107) (st' := [gI (LEAST σ0 g t)]) (d' := 0) (av := [gI g, gI t]) mi_mX12_leastOf lk_X12_509 rfl ci_X12 kd_133 rfl (Nat.le_of_ble_eq_true rfl) (Nat.le_of_ble_eq_true rfl) dX12_judged_104 rfl rfl (q_leastOf hI hq_32 g t ⟨by omega, by omega⟩) ?_
            refine v_ireturn rfl dX12_judged_107 ?_
            first | (exfalso; omega) | exact ⟨Or.inl ⟨by omega, by rw [show w = 3 by omega]; rfl, hx_32⟩, hq_32, hy_32⟩
          · refine w_tableIn (pc' := 108) (off := 72) dX12_judged_36 (by omega) (by omega) (by rw [c_36]; rfl) rfl ?_
            refine w_aload_n (pc' := 109) (i := 0) (by rfl) (by rfl) dX12_judged_108 rfl ?_
            refine w_iload_n (pc' := 110) (i := 1) (by rfl) (by rfl) dX12_judged_109 rfl ?_
            refine w_iload_n (pc' := 111) (i := 2) (by rfl) (by rfl) dX12_judged_110 rfl ?_
            refine v_callVE (pc' := 114) (st' := [gI (MOST σ0 g t)]) (d' := 0) (av := [gI g, gI t]) mi_mX12_mostOf lk_X12_519 rfl ci_X12 kd_133 rfl (Nat.le_of_ble_eq_true rfl) (Nat.le_of_ble_eq_true rfl) dX12_judged_111 rfl rfl (q_mostOf hI hq_32 g t ⟨by omega, by omega⟩) ?_
            refine v_ireturn rfl dX12_judged_114 ?_
            first | (exfalso; omega) | exact ⟨Or.inl ⟨by omega, by rw [show w = 4 by omega]; rfl, hx_32⟩, hq_32, hy_32⟩
          · refine w_tableIn (pc' := 115) (off := 79) dX12_judged_36 (by omega) (by omega) (by rw [c_36]; rfl) rfl ?_
            refine w_aload_n (pc' := 116) (i := 0) (by rfl) (by rfl) dX12_judged_115 rfl ?_
            refine w_iload_n (pc' := 117) (i := 1) (by rfl) (by rfl) dX12_judged_116 rfl ?_
            refine w_iload_n (pc' := 118) (i := 2) (by rfl) (by rfl) dX12_judged_117 rfl ?_
            refine v_callVE (pc' := 121) (st' := [gI (BACK σ0 g t)]) (d' := 0) (av := [gI g, gI t]) mi_mX12_backOf lk_X12_506 rfl ci_X12 kd_133 rfl (Nat.le_of_ble_eq_true rfl) (Nat.le_of_ble_eq_true rfl) dX12_judged_118 rfl rfl (q_backOf hI hq_32 g t ⟨by omega, by omega⟩) ?_
            refine v_ireturn rfl dX12_judged_121 ?_
            first | (exfalso; omega) | exact ⟨Or.inl ⟨by omega, by rw [show w = 5 by omega]; rfl, hx_32⟩, hq_32, hy_32⟩
          · refine w_tableIn (pc' := 122) (off := 86) dX12_judged_36 (by omega) (by omega) (by rw [c_36]; rfl) rfl ?_
            refine w_aload_n (pc' := 123) (i := 0) (by rfl) (by rfl) dX12_judged_122 rfl ?_
            refine w_iload_n (pc' := 124) (i := 1) (by rfl) (by rfl) dX12_judged_123 rfl ?_
            refine w_iload_n (pc' := 125) (i := 2) (by rfl) (by rfl) dX12_judged_124 rfl ?_
            refine v_callVE (pc' := 128) (st' := [gI (TOLD σ0 g t)]) (d' := 0) (av := [gI g, gI t]) mi_mX12_toldOf lk_X12_531 rfl ci_X12 kd_133 rfl (Nat.le_of_ble_eq_true rfl) (Nat.le_of_ble_eq_true rfl) dX12_judged_125 rfl rfl (q_toldOf hI hq_32 g t ⟨by omega, by omega⟩) ?_
            refine v_ireturn rfl dX12_judged_128 ?_
            first | (exfalso; omega) | exact ⟨Or.inl ⟨by omega, by rw [show w = 6 by omega]; rfl, hx_32⟩, hq_32, hy_32⟩
          · refine w_tableIn (pc' := 129) (off := 93) dX12_judged_36 (by omega) (by omega) (by rw [c_36]; rfl) rfl ?_
            refine w_aload_n (pc' := 130) (i := 0) (by rfl) (by rfl) dX12_judged_129 rfl ?_
            refine w_getS (pc' := 133) (q := 187) fg_X12_181 kd_133 sf_X12_85 gr_133_85 dX12_judged_130 rfl ?_
            refine w_bipush (pc' := 135) (by decide) (by decide) dX12_judged_133 rfl ?_
            refine w_iald (pc' := 136) kd_187 (by omega) (by omega) dX12_judged_135 rfl ?_
            refine v_ireturn rfl dX12_judged_136 ?_
            first | (exfalso; omega) | exact ⟨Or.inl ⟨by omega, by rw [show w = 7 by omega]; exact congrArg gI hs_32, hx_32⟩, hq_32, hy_32⟩
      · skip
        refine w_aload_n (pc' := 20) (i := 0) (by rfl) (by rfl) dX12_judged_19 rfl ?_
        refine v_callVE (pc' := 23) (st' := [gI 0]) (d' := 0) (av := []) mi_mX12_refuse lk_X12_368 rfl ci_X12 kd_133 rfl (Nat.le_of_ble_eq_true rfl) (Nat.le_of_ble_eq_true rfl) dX12_judged_20 rfl rfl (q_refuse σ0) ?_
        refine v_ireturn rfl dX12_judged_23 ?_
        exact ⟨Or.inr ⟨by omega, rfl, rfl⟩, (QM.up (QM.refl hI) (by decide) (fun h => h)), rfl⟩
theorem cx_judged (g t w : Int) : CX Inv (fun y => gI y) mL_judged [(0, 12, 15, 13)] mX12_judged [gI g, gI t, gI w] := by
  refine CX_query (fun σ0 => ((0 ≤ g ∧ g < σ0 41 11) ∧ σ0 49 g ≤ t) ∧ 0 ≤ w ∧ w ≤ 8) (fun σ0 => JDG σ0 g t w) (fun σ0 kk hg hI hk => ?_) (fun σ0 hI => m_judged hI g t w) (fun _ => rfl) (fun _ => rfl) (fun _ _ => rfl) (fun _ _ => rfl) (fun σ h z => gGr_208 h z)
  exact wr_judged (k := kk) (r := JDG σ0 g t w) (J0 := fun σ1 => gGr σ1 ∧ QC σ0 σ1) (by rcases hk with h | h; exact Or.inl h.1; exact Or.inr h.1) (gMx_walk (M := mX11_judged) (P := ((0 ≤ g ∧ g < σ0 41 11) ∧ σ0 49 g ≤ t) ∧ 0 ≤ w ∧ w ≤ 8) (v0 := gI (JDG σ0 g t w)) (J := fun σ1 => QC σ0 σ1) pn_GR rfl site_judged (fun _ h => by cases h) (Nat.le_of_ble_eq_true rfl) (show gEnt _ _ = [gR 0, gI g, gI t, gI w] from rfl) hg hk (xu_judged hI g t w))
