/-! back, tell, worth, gift: class and reference (gen/mod_calls1.py) -/
theorem x_back (σ : gH) (hz : 0 ≤ σ 41 11 ∧ σ 41 11 ≤ 120 ∧ 0 ≤ σ 41 16 ∧ σ 41 16 ≤ 200) (g d : Int) : Mt mX11_back 30 [gR 0, gI g, gI d] σ (rE (gI (gb ((0 ≤ d ∧ d ≤ 9999) ∧ ((0 ≤ g ∧ g < σ 41 11) ∧ σ 45 g ≤ d) ∧ σ 50 g = -1))) (if (0 ≤ d ∧ d ≤ 9999) ∧ ((0 ≤ g ∧ g < σ 41 11) ∧ σ 45 g ≤ d) ∧ σ 50 g = -1 then gUp (gUp σ 50 g d) 51 g (σ 0 4) else σ)) := by
  refine Mt.walk (ls := [gR 0, gI g, gI d]) pn_X11 rfl (fun _ _ h => by cases h.1) (Nat.le_of_ble_eq_true rfl) rfl ?_
  refine w_iload_n (pc' := 1) (i := 2) (by rfl) (by rfl) dX11_back_0 rfl ?_
  refine v_callSE (pc' := 4) (st' := [gI (gb (0 ≤ d ∧ d ≤ 9999))]) (d' := 0) (av := [gI d]) ms_mX11_isDay st_mX11_isDay lk_X11_129 rfl rfl (Nat.le_of_ble_eq_true rfl) (Nat.le_of_ble_eq_true rfl) dX11_back_1 rfl rfl (cl_isDay σ d) ?_
  refine v_if_eqB (pc' := 7) (t := 27) dX11_back_4 rfl rfl (fun c_4 => ?_) (fun c_4 => ?_)
  · skip
    refine w_iconst (pc' := 28) (by decide) dX11_back_27 rfl ?_
    refine w_zreturn rfl (.inl rfl) dX11_back_28 ?_
    by_cases hP : (0 ≤ d ∧ d ≤ 9999) ∧ ((0 ≤ g ∧ g < σ 41 11) ∧ σ 45 g ≤ d) ∧ σ 50 g = -1
    · first | (exfalso; omega) | exact ⟨rfl, rfl⟩ | exact ⟨gbT hP, (if_pos hP).symm⟩ | exact ⟨gbT hP, (if_pos (by omega)).trans (if_pos hP).symm⟩
    · first | (exfalso; omega) | exact ⟨rfl, rfl⟩ | exact ⟨gbF hP, (if_neg hP).symm⟩ | exact ⟨gbF hP, (if_neg (by omega)).trans (if_neg hP).symm⟩
  · skip
    refine w_aload_n (pc' := 8) (i := 0) (by rfl) (by rfl) dX11_back_7 rfl ?_
    refine w_getS (pc' := 11) (q := 41) fg_X11_51 kd_0 sf_X11_9 gr_0_9 dX11_back_8 rfl ?_
    refine w_iload_n (pc' := 12) (i := 1) (by rfl) (by rfl) dX11_back_11 rfl ?_
    refine w_iload_n (pc' := 13) (i := 2) (by rfl) (by rfl) dX11_back_12 rfl ?_
    refine w_aload_n (pc' := 14) (i := 0) (by rfl) (by rfl) dX11_back_13 rfl ?_
    refine v_getI (pc' := 17) (ji := 4) rfl fg_X11_96 kd_0 dX11_back_14 rfl ?_
    refine v_callVE (pc' := 20) (st' := [gI (gb (((0 ≤ g ∧ g < σ 41 11) ∧ σ 45 g ≤ d) ∧ σ 50 g = -1))]) (d' := 1) (av := [gI g, gI d, gI (σ 0 4)]) mi_mX2_giveBack lk_X11_155 rfl ci_X2 kd_41 rfl (Nat.le_of_ble_eq_true rfl) (Nat.le_of_ble_eq_true rfl) dX11_back_17 rfl rfl (g_giveBack σ hz g d (σ 0 4)) ?_
    refine v_if_eqB (pc' := 23) (t := 27) dX11_back_20 rfl rfl (fun c_20 => ?_) (fun c_20 => ?_)
    · skip
      refine w_iconst (pc' := 28) (by decide) dX11_back_27 rfl ?_
      refine w_zreturn rfl (.inl rfl) dX11_back_28 ?_
      by_cases hP : (0 ≤ d ∧ d ≤ 9999) ∧ ((0 ≤ g ∧ g < σ 41 11) ∧ σ 45 g ≤ d) ∧ σ 50 g = -1
      · first | (exfalso; omega) | exact ⟨rfl, rfl⟩ | exact ⟨gbT hP, (if_pos hP).symm⟩ | exact ⟨gbT hP, (if_pos (by omega)).trans (if_pos hP).symm⟩
      · first | (exfalso; omega) | exact ⟨rfl, rfl⟩ | exact ⟨gbF hP, (if_neg hP).symm⟩ | exact ⟨gbF hP, (if_neg (by omega)).trans (if_neg hP).symm⟩
    · skip
      refine w_iconst (pc' := 24) (by decide) dX11_back_23 rfl ?_
      refine w_goto (pc' := 28) dX11_back_24 rfl ?_
      refine w_zreturn rfl (.inr rfl) dX11_back_28 ?_
      by_cases hP : (0 ≤ d ∧ d ≤ 9999) ∧ ((0 ≤ g ∧ g < σ 41 11) ∧ σ 45 g ≤ d) ∧ σ 50 g = -1
      · first | (exfalso; omega) | exact ⟨rfl, rfl⟩ | exact ⟨gbT hP, (if_pos hP).symm⟩ | exact ⟨gbT hP, (if_pos (by omega)).trans (if_pos hP).symm⟩
      · first | (exfalso; omega) | exact ⟨rfl, rfl⟩ | exact ⟨gbF hP, (if_neg hP).symm⟩ | exact ⟨gbF hP, (if_neg (by omega)).trans (if_neg hP).symm⟩
theorem x_tell (σ : gH) (hz : 0 ≤ σ 41 11 ∧ σ 41 11 ≤ 120 ∧ 0 ≤ σ 41 16 ∧ σ 41 16 ≤ 200) (g : Int) : Mt mX11_tell 30 [gR 0, gI g] σ (rE (gI (gb ((0 ≤ g ∧ g < σ 41 11) ∧ σ 52 g = -1))) (if (0 ≤ g ∧ g < σ 41 11) ∧ σ 52 g = -1 then gUp σ 52 g (σ 0 4) else σ)) := by
  refine Mt.walk (ls := [gR 0, gI g]) pn_X11 rfl (fun _ _ h => by cases h.1) (Nat.le_of_ble_eq_true rfl) rfl ?_
  refine w_aload_n (pc' := 1) (i := 0) (by rfl) (by rfl) dX11_tell_0 rfl ?_
  refine w_getS (pc' := 4) (q := 41) fg_X11_51 kd_0 sf_X11_9 gr_0_9 dX11_tell_1 rfl ?_
  refine w_iload_n (pc' := 5) (i := 1) (by rfl) (by rfl) dX11_tell_4 rfl ?_
  refine w_aload_n (pc' := 6) (i := 0) (by rfl) (by rfl) dX11_tell_5 rfl ?_
  refine v_getI (pc' := 9) (ji := 4) rfl fg_X11_96 kd_0 dX11_tell_6 rfl ?_
  refine v_callVE (pc' := 12) (st' := [gI (gb ((0 ≤ g ∧ g < σ 41 11) ∧ σ 52 g = -1))]) (d' := 1) (av := [gI g, gI (σ 0 4)]) mi_mX2_noteTold lk_X11_158 rfl ci_X2 kd_41 rfl (Nat.le_of_ble_eq_true rfl) (Nat.le_of_ble_eq_true rfl) dX11_tell_9 rfl rfl (g_noteTold σ hz g (σ 0 4)) ?_
  refine v_zretB rfl dX11_tell_12 ?_
  by_cases hP : (0 ≤ g ∧ g < σ 41 11) ∧ σ 52 g = -1
  · first | (exfalso; omega) | exact ⟨rfl, rfl⟩ | exact ⟨gbT hP, (if_pos hP).symm⟩ | exact ⟨gbT hP, (if_pos (by omega)).trans (if_pos hP).symm⟩
  · first | (exfalso; omega) | exact ⟨rfl, rfl⟩ | exact ⟨gbF hP, (if_neg hP).symm⟩ | exact ⟨gbF hP, (if_neg (by omega)).trans (if_neg hP).symm⟩
theorem x_worth (σ : gH) (hz : 0 ≤ σ 41 11 ∧ σ 41 11 ≤ 120 ∧ 0 ≤ σ 41 16 ∧ σ 41 16 ≤ 200) (g a b : Int) : Mt mX11_worth 30 [gR 0, gI g, gI a, gI b] σ (rE (gI (gb (((0 ≤ g ∧ g < σ 41 11) ∧ 0 ≤ a ∧ a ≤ b ∧ b ≤ 1000000) ∧ σ 41 16 < 200))) (if ((0 ≤ g ∧ g < σ 41 11) ∧ 0 ≤ a ∧ a ≤ b ∧ b ≤ 1000000) ∧ σ 41 16 < 200 then gUp (gUp (gUp (gUp (gUp σ 53 (σ 41 16) g) 54 (σ 41 16) a) 55 (σ 41 16) b) 56 (σ 41 16) (σ 0 4)) 41 16 (σ 41 16 + 1) else σ)) := by
  refine Mt.walk (ls := [gR 0, gI g, gI a, gI b]) pn_X11 rfl (fun _ _ h => by cases h.1) (Nat.le_of_ble_eq_true rfl) rfl ?_
  refine w_aload_n (pc' := 1) (i := 0) (by rfl) (by rfl) dX11_worth_0 rfl ?_
  refine w_getS (pc' := 4) (q := 41) fg_X11_51 kd_0 sf_X11_9 gr_0_9 dX11_worth_1 rfl ?_
  refine w_iload_n (pc' := 5) (i := 1) (by rfl) (by rfl) dX11_worth_4 rfl ?_
  refine v_callVE (pc' := 8) (st' := [gI (gb (0 ≤ g ∧ g < σ 41 11))]) (d' := 0) (av := [gI g]) mi_mX2_has lk_X11_151 rfl ci_X2 kd_41 rfl (Nat.le_of_ble_eq_true rfl) (Nat.le_of_ble_eq_true rfl) dX11_worth_5 rfl rfl (g_has σ hz g) ?_
  refine v_if_eqB (pc' := 11) (t := 40) dX11_worth_8 rfl rfl (fun c_8 => ?_) (fun c_8 => ?_)
  · skip
    refine w_iconst (pc' := 41) (by decide) dX11_worth_40 rfl ?_
    refine w_zreturn rfl (.inl rfl) dX11_worth_41 ?_
    by_cases hP : ((0 ≤ g ∧ g < σ 41 11) ∧ 0 ≤ a ∧ a ≤ b ∧ b ≤ 1000000) ∧ σ 41 16 < 200
    · first | (exfalso; omega) | exact ⟨rfl, rfl⟩ | exact ⟨gbT hP, (if_pos hP).symm⟩ | exact ⟨gbT hP, (if_pos (by omega)).trans (if_pos hP).symm⟩
    · first | (exfalso; omega) | exact ⟨rfl, rfl⟩ | exact ⟨gbF hP, (if_neg hP).symm⟩ | exact ⟨gbF hP, (if_neg (by omega)).trans (if_neg hP).symm⟩
  · skip
    refine w_iload_n (pc' := 12) (i := 2) (by rfl) (by rfl) dX11_worth_11 rfl ?_
    refine w_iload_n (pc' := 13) (i := 3) (by rfl) (by rfl) dX11_worth_12 rfl ?_
    refine v_callSE (pc' := 16) (st' := [gI (gb (0 ≤ a ∧ a ≤ b ∧ b ≤ 1000000))]) (d' := 0) (av := [gI a, gI b]) ms_mX11_isRange st_mX11_isRange lk_X11_140 rfl rfl (Nat.le_of_ble_eq_true rfl) (Nat.le_of_ble_eq_true rfl) dX11_worth_13 rfl rfl (cl_isRange σ a b) ?_
    refine v_if_eqB (pc' := 19) (t := 40) dX11_worth_16 rfl rfl (fun c_16 => ?_) (fun c_16 => ?_)
    · skip
      refine w_iconst (pc' := 41) (by decide) dX11_worth_40 rfl ?_
      refine w_zreturn rfl (.inl rfl) dX11_worth_41 ?_
      by_cases hP : ((0 ≤ g ∧ g < σ 41 11) ∧ 0 ≤ a ∧ a ≤ b ∧ b ≤ 1000000) ∧ σ 41 16 < 200
      · first | (exfalso; omega) | exact ⟨rfl, rfl⟩ | exact ⟨gbT hP, (if_pos hP).symm⟩ | exact ⟨gbT hP, (if_pos (by omega)).trans (if_pos hP).symm⟩
      · first | (exfalso; omega) | exact ⟨rfl, rfl⟩ | exact ⟨gbF hP, (if_neg hP).symm⟩ | exact ⟨gbF hP, (if_neg (by omega)).trans (if_neg hP).symm⟩
    · skip
      refine w_aload_n (pc' := 20) (i := 0) (by rfl) (by rfl) dX11_worth_19 rfl ?_
      refine w_getS (pc' := 23) (q := 41) fg_X11_51 kd_0 sf_X11_9 gr_0_9 dX11_worth_20 rfl ?_
      refine w_iload_n (pc' := 24) (i := 1) (by rfl) (by rfl) dX11_worth_23 rfl ?_
      refine w_iload_n (pc' := 25) (i := 2) (by rfl) (by rfl) dX11_worth_24 rfl ?_
      refine w_iload_n (pc' := 26) (i := 3) (by rfl) (by rfl) dX11_worth_25 rfl ?_
      refine w_aload_n (pc' := 27) (i := 0) (by rfl) (by rfl) dX11_worth_26 rfl ?_
      refine v_getI (pc' := 30) (ji := 4) rfl fg_X11_96 kd_0 dX11_worth_27 rfl ?_
      refine v_callVE (pc' := 33) (st' := [gI (gb ((0 ≤ g ∧ g < σ 41 11) ∧ σ 41 16 < 200))]) (d' := 1) (av := [gI g, gI a, gI b, gI (σ 0 4)]) mi_mX2_addWorth lk_X11_152 rfl ci_X2 kd_41 rfl (Nat.le_of_ble_eq_true rfl) (Nat.le_of_ble_eq_true rfl) dX11_worth_30 rfl rfl (g_addWorth σ hz g a b (σ 0 4)) ?_
      refine v_if_eqB (pc' := 36) (t := 40) dX11_worth_33 rfl rfl (fun c_33 => ?_) (fun c_33 => ?_)
      · skip
        refine w_iconst (pc' := 41) (by decide) dX11_worth_40 rfl ?_
        refine w_zreturn rfl (.inl rfl) dX11_worth_41 ?_
        by_cases hP : ((0 ≤ g ∧ g < σ 41 11) ∧ 0 ≤ a ∧ a ≤ b ∧ b ≤ 1000000) ∧ σ 41 16 < 200
        · first | (exfalso; omega) | exact ⟨rfl, rfl⟩ | exact ⟨gbT hP, (if_pos hP).symm⟩ | exact ⟨gbT hP, (if_pos (by omega)).trans (if_pos hP).symm⟩
        · first | (exfalso; omega) | exact ⟨rfl, rfl⟩ | exact ⟨gbF hP, (if_neg hP).symm⟩ | exact ⟨gbF hP, (if_neg (by omega)).trans (if_neg hP).symm⟩
      · skip
        refine w_iconst (pc' := 37) (by decide) dX11_worth_36 rfl ?_
        refine w_goto (pc' := 41) dX11_worth_37 rfl ?_
        refine w_zreturn rfl (.inr rfl) dX11_worth_41 ?_
        by_cases hP : ((0 ≤ g ∧ g < σ 41 11) ∧ 0 ≤ a ∧ a ≤ b ∧ b ≤ 1000000) ∧ σ 41 16 < 200
        · first | (exfalso; omega) | exact ⟨rfl, rfl⟩ | exact ⟨gbT hP, (if_pos hP).symm⟩ | exact ⟨gbT hP, (if_pos (by omega)).trans (if_pos hP).symm⟩
        · first | (exfalso; omega) | exact ⟨rfl, rfl⟩ | exact ⟨gbF hP, (if_neg hP).symm⟩ | exact ⟨gbF hP, (if_neg (by omega)).trans (if_neg hP).symm⟩
theorem m_back (σ : gH) (hm : 0 ≤ σ 133 42 ∧ σ 133 42 ≤ 120 ∧ 0 ≤ σ 133 43 ∧ σ 133 43 ≤ 200) (g d : Int) : Mt mX12_back 30 [gR 133, gI g, gI d] σ (rE (gI (gb (((0 ≤ g ∧ g < σ 133 42) ∧ σ 156 g ≤ d ∧ d ≤ 9999) ∧ σ 160 g = -1))) (if ((0 ≤ g ∧ g < σ 133 42) ∧ σ 156 g ≤ d ∧ d ≤ 9999) ∧ σ 160 g = -1 then gUp (gUp (gUp σ 133 0 0) 160 g d) 161 g (σ 133 3) else gUp σ 133 0 0)) := by
  refine Mt.walk (ls := [gR 133, gI g, gI d]) pn_X12 rfl (fun _ _ h => by cases h.1) (Nat.le_of_ble_eq_true rfl) rfl ?_
  refine w_aload_n (pc' := 1) (i := 0) (by rfl) (by rfl) dX12_back_0 rfl ?_
  refine w_iconst (pc' := 2) (by decide) dX12_back_1 rfl ?_
  refine v_putI (pc' := 5) (ji := 0) rfl fp_X12_244 kd_133 sf_X12_0 dX12_back_2 rfl ?_
  refine w_aload_n (pc' := 6) (i := 0) (by rfl) (by rfl) dX12_back_5 rfl ?_
  refine w_iload_n (pc' := 7) (i := 1) (by rfl) (by rfl) dX12_back_6 rfl ?_
  refine v_callVE (pc' := 10) (st' := [gI (gb (0 ≤ g ∧ g < (σ 133 42)))]) (d' := 0) (av := [gI g]) mi_mX12_isGift lk_X12_316 rfl ci_X12 kd_133 rfl (Nat.le_of_ble_eq_true rfl) (Nat.le_of_ble_eq_true rfl) dX12_back_7 rfl rfl (mo_isGift (gUp σ 133 0 0)  g) ?_
  refine v_if_eqB (pc' := 13) (t := 40) dX12_back_10 rfl rfl (fun c_10 => ?_) (fun c_10 => ?_)
  · skip
    refine w_iconst (pc' := 41) (by decide) dX12_back_40 rfl ?_
    refine w_zreturn rfl (.inl rfl) dX12_back_41 ?_
    by_cases hP : ((0 ≤ g ∧ g < σ 133 42) ∧ σ 156 g ≤ d ∧ d ≤ 9999) ∧ σ 160 g = -1
    · first | (exfalso; omega) | exact ⟨rfl, rfl⟩ | exact ⟨gbT hP, (if_pos hP).symm⟩ | exact ⟨gbT hP, (if_pos (by omega)).trans (if_pos hP).symm⟩
    · first | (exfalso; omega) | exact ⟨rfl, rfl⟩ | exact ⟨gbF hP, (if_neg hP).symm⟩ | exact ⟨gbF hP, (if_neg (by omega)).trans (if_neg hP).symm⟩
  · skip
    refine w_iload_n (pc' := 14) (i := 2) (by rfl) (by rfl) dX12_back_13 rfl ?_
    refine w_aload_n (pc' := 15) (i := 0) (by rfl) (by rfl) dX12_back_14 rfl ?_
    refine w_getS (pc' := 18) (q := 156) fg_X12_81 kd_133 sf_X12_30 gr_133_30 dX12_back_15 rfl ?_
    refine w_iload_n (pc' := 19) (i := 1) (by rfl) (by rfl) dX12_back_18 rfl ?_
    refine w_iald (pc' := 20) kd_156 (by omega) (by omega) dX12_back_19 rfl ?_
    show Wp _ _ _ _ _ _ [gI (σ 156 g), gI d]
    refine w_icmp_lt (pc' := 23) (t := 40) dX12_back_20 rfl rfl (fun c_20 => ?_) (fun c_20 => ?_)
    · skip
      refine w_iconst (pc' := 41) (by decide) dX12_back_40 rfl ?_
      refine w_zreturn rfl (.inl rfl) dX12_back_41 ?_
      by_cases hP : ((0 ≤ g ∧ g < σ 133 42) ∧ σ 156 g ≤ d ∧ d ≤ 9999) ∧ σ 160 g = -1
      · first | (exfalso; omega) | exact ⟨rfl, rfl⟩ | exact ⟨gbT hP, (if_pos hP).symm⟩ | exact ⟨gbT hP, (if_pos (by omega)).trans (if_pos hP).symm⟩
      · first | (exfalso; omega) | exact ⟨rfl, rfl⟩ | exact ⟨gbF hP, (if_neg hP).symm⟩ | exact ⟨gbF hP, (if_neg (by omega)).trans (if_neg hP).symm⟩
    · skip
      refine w_iload_n (pc' := 24) (i := 2) (by rfl) (by rfl) dX12_back_23 rfl ?_
      refine w_sipush (pc' := 27) (by decide) (by decide) dX12_back_24 rfl ?_
      refine w_icmp_gt (pc' := 30) (t := 40) dX12_back_27 rfl rfl (fun c_27 => ?_) (fun c_27 => ?_)
      · skip
        refine w_iconst (pc' := 41) (by decide) dX12_back_40 rfl ?_
        refine w_zreturn rfl (.inl rfl) dX12_back_41 ?_
        by_cases hP : ((0 ≤ g ∧ g < σ 133 42) ∧ σ 156 g ≤ d ∧ d ≤ 9999) ∧ σ 160 g = -1
        · first | (exfalso; omega) | exact ⟨rfl, rfl⟩ | exact ⟨gbT hP, (if_pos hP).symm⟩ | exact ⟨gbT hP, (if_pos (by omega)).trans (if_pos hP).symm⟩
        · first | (exfalso; omega) | exact ⟨rfl, rfl⟩ | exact ⟨gbF hP, (if_neg hP).symm⟩ | exact ⟨gbF hP, (if_neg (by omega)).trans (if_neg hP).symm⟩
      · skip
        refine w_aload_n (pc' := 31) (i := 0) (by rfl) (by rfl) dX12_back_30 rfl ?_
        refine w_getS (pc' := 34) (q := 160) fg_X12_93 kd_133 sf_X12_34 gr_133_34 dX12_back_31 rfl ?_
        refine w_iload_n (pc' := 35) (i := 1) (by rfl) (by rfl) dX12_back_34 rfl ?_
        refine w_iald (pc' := 36) kd_160 (by omega) (by omega) dX12_back_35 rfl ?_
        show Wp _ _ _ _ _ _ [gI (σ 160 g)]
        refine w_iconst (pc' := 37) (by decide) dX12_back_36 rfl ?_
        refine w_icmp_eq (pc' := 40) (t := 42) dX12_back_37 rfl rfl (fun c_37 => ?_) (fun c_37 => ?_)
        · skip
          refine w_aload_n (pc' := 43) (i := 0) (by rfl) (by rfl) dX12_back_42 rfl ?_
          refine w_getS (pc' := 46) (q := 160) fg_X12_93 kd_133 sf_X12_34 gr_133_34 dX12_back_43 rfl ?_
          refine w_iload_n (pc' := 47) (i := 1) (by rfl) (by rfl) dX12_back_46 rfl ?_
          refine w_iload_n (pc' := 48) (i := 2) (by rfl) (by rfl) dX12_back_47 rfl ?_
          refine w_iast (pc' := 49) kd_160 (by omega) (by omega) dX12_back_48 rfl ?_
          refine w_aload_n (pc' := 50) (i := 0) (by rfl) (by rfl) dX12_back_49 rfl ?_
          refine w_getS (pc' := 53) (q := 161) fg_X12_96 kd_133 sf_X12_35 gr_133_35 dX12_back_50 rfl ?_
          refine w_iload_n (pc' := 54) (i := 1) (by rfl) (by rfl) dX12_back_53 rfl ?_
          refine w_aload_n (pc' := 55) (i := 0) (by rfl) (by rfl) dX12_back_54 rfl ?_
          refine v_getI (pc' := 58) (ji := 3) rfl fg_X12_258 kd_133 dX12_back_55 rfl ?_
          show Wp _ _ _ _ _ _ [gI (σ 133 3), gI g, gR 161]
          refine w_iast (pc' := 59) kd_161 (by omega) (by omega) dX12_back_58 rfl ?_
          refine w_iconst (pc' := 60) (by decide) dX12_back_59 rfl ?_
          refine w_zreturn rfl (.inr rfl) dX12_back_60 ?_
          by_cases hP : ((0 ≤ g ∧ g < σ 133 42) ∧ σ 156 g ≤ d ∧ d ≤ 9999) ∧ σ 160 g = -1
          · first | (exfalso; omega) | exact ⟨rfl, rfl⟩ | exact ⟨gbT hP, (if_pos hP).symm⟩ | exact ⟨gbT hP, (if_pos (by omega)).trans (if_pos hP).symm⟩
          · first | (exfalso; omega) | exact ⟨rfl, rfl⟩ | exact ⟨gbF hP, (if_neg hP).symm⟩ | exact ⟨gbF hP, (if_neg (by omega)).trans (if_neg hP).symm⟩
        · skip
          refine w_iconst (pc' := 41) (by decide) dX12_back_40 rfl ?_
          refine w_zreturn rfl (.inl rfl) dX12_back_41 ?_
          by_cases hP : ((0 ≤ g ∧ g < σ 133 42) ∧ σ 156 g ≤ d ∧ d ≤ 9999) ∧ σ 160 g = -1
          · first | (exfalso; omega) | exact ⟨rfl, rfl⟩ | exact ⟨gbT hP, (if_pos hP).symm⟩ | exact ⟨gbT hP, (if_pos (by omega)).trans (if_pos hP).symm⟩
          · first | (exfalso; omega) | exact ⟨rfl, rfl⟩ | exact ⟨gbF hP, (if_neg hP).symm⟩ | exact ⟨gbF hP, (if_neg (by omega)).trans (if_neg hP).symm⟩
theorem m_tell (σ : gH) (hm : 0 ≤ σ 133 42 ∧ σ 133 42 ≤ 120 ∧ 0 ≤ σ 133 43 ∧ σ 133 43 ≤ 200) (g : Int) : Mt mX12_tell 30 [gR 133, gI g] σ (rE (gI (gb ((0 ≤ g ∧ g < σ 133 42) ∧ σ 162 g = -1))) (if (0 ≤ g ∧ g < σ 133 42) ∧ σ 162 g = -1 then gUp (gUp σ 133 0 0) 162 g (σ 133 3) else gUp σ 133 0 0)) := by
  refine Mt.walk (ls := [gR 133, gI g]) pn_X12 rfl (fun _ _ h => by cases h.1) (Nat.le_of_ble_eq_true rfl) rfl ?_
  refine w_aload_n (pc' := 1) (i := 0) (by rfl) (by rfl) dX12_tell_0 rfl ?_
  refine w_iconst (pc' := 2) (by decide) dX12_tell_1 rfl ?_
  refine v_putI (pc' := 5) (ji := 0) rfl fp_X12_244 kd_133 sf_X12_0 dX12_tell_2 rfl ?_
  refine w_aload_n (pc' := 6) (i := 0) (by rfl) (by rfl) dX12_tell_5 rfl ?_
  refine w_iload_n (pc' := 7) (i := 1) (by rfl) (by rfl) dX12_tell_6 rfl ?_
  refine v_callVE (pc' := 10) (st' := [gI (gb (0 ≤ g ∧ g < (σ 133 42)))]) (d' := 0) (av := [gI g]) mi_mX12_isGift lk_X12_316 rfl ci_X12 kd_133 rfl (Nat.le_of_ble_eq_true rfl) (Nat.le_of_ble_eq_true rfl) dX12_tell_7 rfl rfl (mo_isGift (gUp σ 133 0 0)  g) ?_
  refine v_if_eqB (pc' := 13) (t := 23) dX12_tell_10 rfl rfl (fun c_10 => ?_) (fun c_10 => ?_)
  · skip
    refine w_iconst (pc' := 24) (by decide) dX12_tell_23 rfl ?_
    refine w_zreturn rfl (.inl rfl) dX12_tell_24 ?_
    by_cases hP : (0 ≤ g ∧ g < σ 133 42) ∧ σ 162 g = -1
    · first | (exfalso; omega) | exact ⟨rfl, rfl⟩ | exact ⟨gbT hP, (if_pos hP).symm⟩ | exact ⟨gbT hP, (if_pos (by omega)).trans (if_pos hP).symm⟩
    · first | (exfalso; omega) | exact ⟨rfl, rfl⟩ | exact ⟨gbF hP, (if_neg hP).symm⟩ | exact ⟨gbF hP, (if_neg (by omega)).trans (if_neg hP).symm⟩
  · skip
    refine w_aload_n (pc' := 14) (i := 0) (by rfl) (by rfl) dX12_tell_13 rfl ?_
    refine w_getS (pc' := 17) (q := 162) fg_X12_99 kd_133 sf_X12_36 gr_133_36 dX12_tell_14 rfl ?_
    refine w_iload_n (pc' := 18) (i := 1) (by rfl) (by rfl) dX12_tell_17 rfl ?_
    refine w_iald (pc' := 19) kd_162 (by omega) (by omega) dX12_tell_18 rfl ?_
    show Wp _ _ _ _ _ _ [gI (σ 162 g)]
    refine w_iconst (pc' := 20) (by decide) dX12_tell_19 rfl ?_
    refine w_icmp_eq (pc' := 23) (t := 25) dX12_tell_20 rfl rfl (fun c_20 => ?_) (fun c_20 => ?_)
    · skip
      refine w_aload_n (pc' := 26) (i := 0) (by rfl) (by rfl) dX12_tell_25 rfl ?_
      refine w_getS (pc' := 29) (q := 162) fg_X12_99 kd_133 sf_X12_36 gr_133_36 dX12_tell_26 rfl ?_
      refine w_iload_n (pc' := 30) (i := 1) (by rfl) (by rfl) dX12_tell_29 rfl ?_
      refine w_aload_n (pc' := 31) (i := 0) (by rfl) (by rfl) dX12_tell_30 rfl ?_
      refine v_getI (pc' := 34) (ji := 3) rfl fg_X12_258 kd_133 dX12_tell_31 rfl ?_
      show Wp _ _ _ _ _ _ [gI (σ 133 3), gI g, gR 162]
      refine w_iast (pc' := 35) kd_162 (by omega) (by omega) dX12_tell_34 rfl ?_
      refine w_iconst (pc' := 36) (by decide) dX12_tell_35 rfl ?_
      refine w_zreturn rfl (.inr rfl) dX12_tell_36 ?_
      by_cases hP : (0 ≤ g ∧ g < σ 133 42) ∧ σ 162 g = -1
      · first | (exfalso; omega) | exact ⟨rfl, rfl⟩ | exact ⟨gbT hP, (if_pos hP).symm⟩ | exact ⟨gbT hP, (if_pos (by omega)).trans (if_pos hP).symm⟩
      · first | (exfalso; omega) | exact ⟨rfl, rfl⟩ | exact ⟨gbF hP, (if_neg hP).symm⟩ | exact ⟨gbF hP, (if_neg (by omega)).trans (if_neg hP).symm⟩
    · skip
      refine w_iconst (pc' := 24) (by decide) dX12_tell_23 rfl ?_
      refine w_zreturn rfl (.inl rfl) dX12_tell_24 ?_
      by_cases hP : (0 ≤ g ∧ g < σ 133 42) ∧ σ 162 g = -1
      · first | (exfalso; omega) | exact ⟨rfl, rfl⟩ | exact ⟨gbT hP, (if_pos hP).symm⟩ | exact ⟨gbT hP, (if_pos (by omega)).trans (if_pos hP).symm⟩
      · first | (exfalso; omega) | exact ⟨rfl, rfl⟩ | exact ⟨gbF hP, (if_neg hP).symm⟩ | exact ⟨gbF hP, (if_neg (by omega)).trans (if_neg hP).symm⟩
theorem m_worth (σ : gH) (hm : 0 ≤ σ 133 42 ∧ σ 133 42 ≤ 120 ∧ 0 ≤ σ 133 43 ∧ σ 133 43 ≤ 200) (g a b : Int) : Mt mX12_worth 30 [gR 133, gI g, gI a, gI b] σ (rE (gI (gb (((0 ≤ g ∧ g < σ 133 42) ∧ 0 ≤ a ∧ a ≤ b ∧ b ≤ 1000000) ∧ σ 133 43 ≠ 200))) (if ((0 ≤ g ∧ g < σ 133 42) ∧ 0 ≤ a ∧ a ≤ b ∧ b ≤ 1000000) ∧ σ 133 43 ≠ 200 then gUp (gUp (gUp (gUp (gUp (gUp σ 133 0 0) 164 (σ 133 43) g) 165 (σ 133 43) a) 166 (σ 133 43) b) 167 (σ 133 43) (σ 133 3)) 133 43 (σ 133 43 + 1) else gUp σ 133 0 0)) := by
  refine Mt.walk (ls := [gR 133, gI g, gI a, gI b]) pn_X12 rfl (fun _ _ h => by cases h.1) (Nat.le_of_ble_eq_true rfl) rfl ?_
  refine w_aload_n (pc' := 1) (i := 0) (by rfl) (by rfl) dX12_worth_0 rfl ?_
  refine w_iconst (pc' := 2) (by decide) dX12_worth_1 rfl ?_
  refine v_putI (pc' := 5) (ji := 0) rfl fp_X12_244 kd_133 sf_X12_0 dX12_worth_2 rfl ?_
  refine w_aload_n (pc' := 6) (i := 0) (by rfl) (by rfl) dX12_worth_5 rfl ?_
  refine w_iload_n (pc' := 7) (i := 1) (by rfl) (by rfl) dX12_worth_6 rfl ?_
  refine v_callVE (pc' := 10) (st' := [gI (gb (0 ≤ g ∧ g < (σ 133 42)))]) (d' := 0) (av := [gI g]) mi_mX12_isGift lk_X12_316 rfl ci_X12 kd_133 rfl (Nat.le_of_ble_eq_true rfl) (Nat.le_of_ble_eq_true rfl) dX12_worth_7 rfl rfl (mo_isGift (gUp σ 133 0 0)  g) ?_
  refine v_if_eqB (pc' := 13) (t := 31) dX12_worth_10 rfl rfl (fun c_10 => ?_) (fun c_10 => ?_)
  · skip
    refine w_iconst (pc' := 32) (by decide) dX12_worth_31 rfl ?_
    refine w_zreturn rfl (.inl rfl) dX12_worth_32 ?_
    by_cases hP : ((0 ≤ g ∧ g < σ 133 42) ∧ 0 ≤ a ∧ a ≤ b ∧ b ≤ 1000000) ∧ σ 133 43 ≠ 200
    · first | (exfalso; omega) | exact ⟨rfl, rfl⟩ | exact ⟨gbT hP, (if_pos hP).symm⟩ | exact ⟨gbT hP, (if_pos (by omega)).trans (if_pos hP).symm⟩
    · first | (exfalso; omega) | exact ⟨rfl, rfl⟩ | exact ⟨gbF hP, (if_neg hP).symm⟩ | exact ⟨gbF hP, (if_neg (by omega)).trans (if_neg hP).symm⟩
  · skip
    refine w_iload_n (pc' := 14) (i := 2) (by rfl) (by rfl) dX12_worth_13 rfl ?_
    refine w_iload_n (pc' := 15) (i := 3) (by rfl) (by rfl) dX12_worth_14 rfl ?_
    refine v_callSE (pc' := 18) (st' := [gI (gb (0 ≤ a ∧ a ≤ b ∧ b ≤ 1000000))]) (d' := 0) (av := [gI a, gI b]) ms_mX12_isWorth st_mX12_isWorth lk_X12_309 rfl rfl (Nat.le_of_ble_eq_true rfl) (Nat.le_of_ble_eq_true rfl) dX12_worth_15 rfl rfl (mo_isWorth (gUp σ 133 0 0) a b) ?_
    refine v_if_eqB (pc' := 21) (t := 31) dX12_worth_18 rfl rfl (fun c_18 => ?_) (fun c_18 => ?_)
    · skip
      refine w_iconst (pc' := 32) (by decide) dX12_worth_31 rfl ?_
      refine w_zreturn rfl (.inl rfl) dX12_worth_32 ?_
      by_cases hP : ((0 ≤ g ∧ g < σ 133 42) ∧ 0 ≤ a ∧ a ≤ b ∧ b ≤ 1000000) ∧ σ 133 43 ≠ 200
      · first | (exfalso; omega) | exact ⟨rfl, rfl⟩ | exact ⟨gbT hP, (if_pos hP).symm⟩ | exact ⟨gbT hP, (if_pos (by omega)).trans (if_pos hP).symm⟩
      · first | (exfalso; omega) | exact ⟨rfl, rfl⟩ | exact ⟨gbF hP, (if_neg hP).symm⟩ | exact ⟨gbF hP, (if_neg (by omega)).trans (if_neg hP).symm⟩
    · skip
      refine w_aload_n (pc' := 22) (i := 0) (by rfl) (by rfl) dX12_worth_21 rfl ?_
      refine v_getI (pc' := 25) (ji := 43) rfl fg_X12_319 kd_133 dX12_worth_22 rfl ?_
      show Wp _ _ _ _ _ _ [gI (σ 133 43)]
      refine w_sipush (pc' := 28) (by decide) (by decide) dX12_worth_25 rfl ?_
      refine w_icmp_ne (pc' := 31) (t := 33) dX12_worth_28 rfl rfl (fun c_28 => ?_) (fun c_28 => ?_)
      · skip
        refine w_aload_n (pc' := 34) (i := 0) (by rfl) (by rfl) dX12_worth_33 rfl ?_
        refine w_getS (pc' := 37) (q := 164) fg_X12_106 kd_133 sf_X12_38 gr_133_38 dX12_worth_34 rfl ?_
        refine w_aload_n (pc' := 38) (i := 0) (by rfl) (by rfl) dX12_worth_37 rfl ?_
        refine v_getI (pc' := 41) (ji := 43) rfl fg_X12_319 kd_133 dX12_worth_38 rfl ?_
        show Wp _ _ _ _ _ _ [gI (σ 133 43), gR 164]
        refine w_iload_n (pc' := 42) (i := 1) (by rfl) (by rfl) dX12_worth_41 rfl ?_
        refine w_iast (pc' := 43) kd_164 (by omega) (by omega) dX12_worth_42 rfl ?_
        refine w_aload_n (pc' := 44) (i := 0) (by rfl) (by rfl) dX12_worth_43 rfl ?_
        refine w_getS (pc' := 47) (q := 165) fg_X12_109 kd_133 sf_X12_39 gr_133_39 dX12_worth_44 rfl ?_
        refine w_aload_n (pc' := 48) (i := 0) (by rfl) (by rfl) dX12_worth_47 rfl ?_
        refine v_getI (pc' := 51) (ji := 43) rfl fg_X12_319 kd_133 dX12_worth_48 rfl ?_
        show Wp _ _ _ _ _ _ [gI (σ 133 43), gR 165]
        refine w_iload_n (pc' := 52) (i := 2) (by rfl) (by rfl) dX12_worth_51 rfl ?_
        refine w_iast (pc' := 53) kd_165 (by omega) (by omega) dX12_worth_52 rfl ?_
        refine w_aload_n (pc' := 54) (i := 0) (by rfl) (by rfl) dX12_worth_53 rfl ?_
        refine w_getS (pc' := 57) (q := 166) fg_X12_112 kd_133 sf_X12_40 gr_133_40 dX12_worth_54 rfl ?_
        refine w_aload_n (pc' := 58) (i := 0) (by rfl) (by rfl) dX12_worth_57 rfl ?_
        refine v_getI (pc' := 61) (ji := 43) rfl fg_X12_319 kd_133 dX12_worth_58 rfl ?_
        show Wp _ _ _ _ _ _ [gI (σ 133 43), gR 166]
        refine w_iload_n (pc' := 62) (i := 3) (by rfl) (by rfl) dX12_worth_61 rfl ?_
        refine w_iast (pc' := 63) kd_166 (by omega) (by omega) dX12_worth_62 rfl ?_
        refine w_aload_n (pc' := 64) (i := 0) (by rfl) (by rfl) dX12_worth_63 rfl ?_
        refine w_getS (pc' := 67) (q := 167) fg_X12_115 kd_133 sf_X12_41 gr_133_41 dX12_worth_64 rfl ?_
        refine w_aload_n (pc' := 68) (i := 0) (by rfl) (by rfl) dX12_worth_67 rfl ?_
        refine v_getI (pc' := 71) (ji := 43) rfl fg_X12_319 kd_133 dX12_worth_68 rfl ?_
        show Wp _ _ _ _ _ _ [gI (σ 133 43), gR 167]
        refine w_aload_n (pc' := 72) (i := 0) (by rfl) (by rfl) dX12_worth_71 rfl ?_
        refine v_getI (pc' := 75) (ji := 3) rfl fg_X12_258 kd_133 dX12_worth_72 rfl ?_
        show Wp _ _ _ _ _ _ [gI (σ 133 3), gI (σ 133 43), gR 167]
        refine w_iast (pc' := 76) kd_167 (by omega) (by omega) dX12_worth_75 rfl ?_
        refine w_aload_n (pc' := 77) (i := 0) (by rfl) (by rfl) dX12_worth_76 rfl ?_
        refine w_dup (pc' := 78) dX12_worth_77 rfl ?_
        refine v_getI (pc' := 81) (ji := 43) rfl fg_X12_319 kd_133 dX12_worth_78 rfl ?_
        show Wp _ _ _ _ _ _ [gI (σ 133 43), gR 133]
        refine w_iconst (pc' := 82) (by decide) dX12_worth_81 rfl ?_
        refine v_iadd (pc' := 83) (by omega) dX12_worth_82 rfl ?_
        refine v_putI (pc' := 86) (ji := 43) rfl fp_X12_319 kd_133 sf_X12_43 dX12_worth_83 rfl ?_
        refine w_iconst (pc' := 87) (by decide) dX12_worth_86 rfl ?_
        refine w_zreturn rfl (.inr rfl) dX12_worth_87 ?_
        by_cases hP : ((0 ≤ g ∧ g < σ 133 42) ∧ 0 ≤ a ∧ a ≤ b ∧ b ≤ 1000000) ∧ σ 133 43 ≠ 200
        · first | (exfalso; omega) | exact ⟨rfl, rfl⟩ | exact ⟨gbT hP, (if_pos hP).symm⟩ | exact ⟨gbT hP, (if_pos (by omega)).trans (if_pos hP).symm⟩
        · first | (exfalso; omega) | exact ⟨rfl, rfl⟩ | exact ⟨gbF hP, (if_neg hP).symm⟩ | exact ⟨gbF hP, (if_neg (by omega)).trans (if_neg hP).symm⟩
      · skip
        refine w_iconst (pc' := 32) (by decide) dX12_worth_31 rfl ?_
        refine w_zreturn rfl (.inl rfl) dX12_worth_32 ?_
        by_cases hP : ((0 ≤ g ∧ g < σ 133 42) ∧ 0 ≤ a ∧ a ≤ b ∧ b ≤ 1000000) ∧ σ 133 43 ≠ 200
        · first | (exfalso; omega) | exact ⟨rfl, rfl⟩ | exact ⟨gbT hP, (if_pos hP).symm⟩ | exact ⟨gbT hP, (if_pos (by omega)).trans (if_pos hP).symm⟩
        · first | (exfalso; omega) | exact ⟨rfl, rfl⟩ | exact ⟨gbF hP, (if_neg hP).symm⟩ | exact ⟨gbF hP, (if_neg (by omega)).trans (if_neg hP).symm⟩
