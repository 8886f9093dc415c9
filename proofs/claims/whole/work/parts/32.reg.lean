/-! what the registers ask of days, worths, parties, gifts: class and reference (gen/mod_reg.py) -/
theorem cl_isDay (σ : gH) (x : Int) : Mt mX11_isDay 0 [gI x] σ (rE (gI (gb (0 ≤ x ∧ x ≤ 9999))) σ) := by
  refine Mt.walk (ls := [gI x]) pn_X11 rfl (fun _ _ h => by cases h.1) (Nat.le_of_ble_eq_true rfl) rfl ?_
  refine w_iload_n (pc' := 1) (i := 0) (by rfl) (by rfl) dX11_isDay_0 rfl ?_
  refine w_if_lt (pc' := 4) (t := 15) dX11_isDay_1 rfl rfl (fun c_1 => ?_) (fun c_1 => ?_)
  · skip
    refine w_iconst (pc' := 16) (by decide) dX11_isDay_15 rfl ?_
    refine w_zreturn rfl (.inl rfl) dX11_isDay_16 ?_
    first | (exfalso; omega) | exact ⟨gbT (by omega), rfl⟩ | exact ⟨gbF (by omega), rfl⟩
  · skip
    refine w_iload_n (pc' := 5) (i := 0) (by rfl) (by rfl) dX11_isDay_4 rfl ?_
    refine w_sipush (pc' := 8) (by decide) (by decide) dX11_isDay_5 rfl ?_
    refine w_icmp_gt (pc' := 11) (t := 15) dX11_isDay_8 rfl rfl (fun c_8 => ?_) (fun c_8 => ?_)
    · skip
      refine w_iconst (pc' := 16) (by decide) dX11_isDay_15 rfl ?_
      refine w_zreturn rfl (.inl rfl) dX11_isDay_16 ?_
      first | (exfalso; omega) | exact ⟨gbT (by omega), rfl⟩ | exact ⟨gbF (by omega), rfl⟩
    · skip
      refine w_iconst (pc' := 12) (by decide) dX11_isDay_11 rfl ?_
      refine w_goto (pc' := 16) dX11_isDay_12 rfl ?_
      refine w_zreturn rfl (.inr rfl) dX11_isDay_16 ?_
      first | (exfalso; omega) | exact ⟨gbT (by omega), rfl⟩ | exact ⟨gbF (by omega), rfl⟩
theorem cl_isRange (σ : gH) (x y : Int) : Mt mX11_isRange 0 [gI x, gI y] σ (rE (gI (gb (0 ≤ x ∧ x ≤ y ∧ y ≤ 1000000))) σ) := by
  refine Mt.walk (ls := [gI x, gI y]) pn_X11 rfl (fun _ _ h => by cases h.1) (Nat.le_of_ble_eq_true rfl) rfl ?_
  refine w_iconst (pc' := 1) (by decide) dX11_isRange_0 rfl ?_
  refine w_iload_n (pc' := 2) (i := 0) (by rfl) (by rfl) dX11_isRange_1 rfl ?_
  refine w_icmp_gt (pc' := 5) (t := 20) dX11_isRange_2 rfl rfl (fun c_2 => ?_) (fun c_2 => ?_)
  · skip
    refine w_iconst (pc' := 21) (by decide) dX11_isRange_20 rfl ?_
    refine w_zreturn rfl (.inl rfl) dX11_isRange_21 ?_
    first | (exfalso; omega) | exact ⟨gbT (by omega), rfl⟩ | exact ⟨gbF (by omega), rfl⟩
  · skip
    refine w_iload_n (pc' := 6) (i := 0) (by rfl) (by rfl) dX11_isRange_5 rfl ?_
    refine w_iload_n (pc' := 7) (i := 1) (by rfl) (by rfl) dX11_isRange_6 rfl ?_
    refine w_icmp_gt (pc' := 10) (t := 20) dX11_isRange_7 rfl rfl (fun c_7 => ?_) (fun c_7 => ?_)
    · skip
      refine w_iconst (pc' := 21) (by decide) dX11_isRange_20 rfl ?_
      refine w_zreturn rfl (.inl rfl) dX11_isRange_21 ?_
      first | (exfalso; omega) | exact ⟨gbT (by omega), rfl⟩ | exact ⟨gbF (by omega), rfl⟩
    · skip
      refine w_iload_n (pc' := 11) (i := 1) (by rfl) (by rfl) dX11_isRange_10 rfl ?_
      refine w_ldc (pc' := 13) (by decide) ct_X11_150 dX11_isRange_11 rfl ?_
      refine w_icmp_gt (pc' := 16) (t := 20) dX11_isRange_13 rfl rfl (fun c_13 => ?_) (fun c_13 => ?_)
      · skip
        refine w_iconst (pc' := 21) (by decide) dX11_isRange_20 rfl ?_
        refine w_zreturn rfl (.inl rfl) dX11_isRange_21 ?_
        first | (exfalso; omega) | exact ⟨gbT (by omega), rfl⟩ | exact ⟨gbF (by omega), rfl⟩
      · skip
        refine w_iconst (pc' := 17) (by decide) dX11_isRange_16 rfl ?_
        refine w_goto (pc' := 21) dX11_isRange_17 rfl ?_
        refine w_zreturn rfl (.inr rfl) dX11_isRange_21 ?_
        first | (exfalso; omega) | exact ⟨gbT (by omega), rfl⟩ | exact ⟨gbF (by omega), rfl⟩
theorem mo_isDay (σ : gH) (x : Int) : Mt mX12_isDay 0 [gI x] σ (rE (gI (gb (0 ≤ x ∧ x ≤ 9999))) σ) := by
  refine Mt.walk (ls := [gI x]) pn_X12 rfl (fun _ _ h => by cases h.1) (Nat.le_of_ble_eq_true rfl) rfl ?_
  refine w_iload_n (pc' := 1) (i := 0) (by rfl) (by rfl) dX12_isDay_0 rfl ?_
  refine w_if_lt (pc' := 4) (t := 15) dX12_isDay_1 rfl rfl (fun c_1 => ?_) (fun c_1 => ?_)
  · skip
    refine w_iconst (pc' := 16) (by decide) dX12_isDay_15 rfl ?_
    refine w_zreturn rfl (.inl rfl) dX12_isDay_16 ?_
    first | (exfalso; omega) | exact ⟨gbT (by omega), rfl⟩ | exact ⟨gbF (by omega), rfl⟩
  · skip
    refine w_iload_n (pc' := 5) (i := 0) (by rfl) (by rfl) dX12_isDay_4 rfl ?_
    refine w_sipush (pc' := 8) (by decide) (by decide) dX12_isDay_5 rfl ?_
    refine w_icmp_gt (pc' := 11) (t := 15) dX12_isDay_8 rfl rfl (fun c_8 => ?_) (fun c_8 => ?_)
    · skip
      refine w_iconst (pc' := 16) (by decide) dX12_isDay_15 rfl ?_
      refine w_zreturn rfl (.inl rfl) dX12_isDay_16 ?_
      first | (exfalso; omega) | exact ⟨gbT (by omega), rfl⟩ | exact ⟨gbF (by omega), rfl⟩
    · skip
      refine w_iconst (pc' := 12) (by decide) dX12_isDay_11 rfl ?_
      refine w_goto (pc' := 16) dX12_isDay_12 rfl ?_
      refine w_zreturn rfl (.inr rfl) dX12_isDay_16 ?_
      first | (exfalso; omega) | exact ⟨gbT (by omega), rfl⟩ | exact ⟨gbF (by omega), rfl⟩
theorem mo_isIn (σ : gH) (x y z : Int) : Mt mX12_isIn 0 [gI x, gI y, gI z] σ (rE (gI (gb (y ≤ x ∧ x ≤ z))) σ) := by
  refine Mt.walk (ls := [gI x, gI y, gI z]) pn_X12 rfl (fun _ _ h => by cases h.1) (Nat.le_of_ble_eq_true rfl) rfl ?_
  refine w_iload_n (pc' := 1) (i := 0) (by rfl) (by rfl) dX12_isIn_0 rfl ?_
  refine w_iload_n (pc' := 2) (i := 1) (by rfl) (by rfl) dX12_isIn_1 rfl ?_
  refine w_icmp_lt (pc' := 5) (t := 14) dX12_isIn_2 rfl rfl (fun c_2 => ?_) (fun c_2 => ?_)
  · skip
    refine w_iconst (pc' := 15) (by decide) dX12_isIn_14 rfl ?_
    refine w_zreturn rfl (.inl rfl) dX12_isIn_15 ?_
    first | (exfalso; omega) | exact ⟨gbT (by omega), rfl⟩ | exact ⟨gbF (by omega), rfl⟩
  · skip
    refine w_iload_n (pc' := 6) (i := 0) (by rfl) (by rfl) dX12_isIn_5 rfl ?_
    refine w_iload_n (pc' := 7) (i := 2) (by rfl) (by rfl) dX12_isIn_6 rfl ?_
    refine w_icmp_gt (pc' := 10) (t := 14) dX12_isIn_7 rfl rfl (fun c_7 => ?_) (fun c_7 => ?_)
    · skip
      refine w_iconst (pc' := 15) (by decide) dX12_isIn_14 rfl ?_
      refine w_zreturn rfl (.inl rfl) dX12_isIn_15 ?_
      first | (exfalso; omega) | exact ⟨gbT (by omega), rfl⟩ | exact ⟨gbF (by omega), rfl⟩
    · skip
      refine w_iconst (pc' := 11) (by decide) dX12_isIn_10 rfl ?_
      refine w_goto (pc' := 15) dX12_isIn_11 rfl ?_
      refine w_zreturn rfl (.inr rfl) dX12_isIn_15 ?_
      first | (exfalso; omega) | exact ⟨gbT (by omega), rfl⟩ | exact ⟨gbF (by omega), rfl⟩
theorem mo_isWorth (σ : gH) (x y : Int) : Mt mX12_isWorth 0 [gI x, gI y] σ (rE (gI (gb (0 ≤ x ∧ x ≤ y ∧ y ≤ 1000000))) σ) := by
  refine Mt.walk (ls := [gI x, gI y]) pn_X12 rfl (fun _ _ h => by cases h.1) (Nat.le_of_ble_eq_true rfl) rfl ?_
  refine w_iload_n (pc' := 1) (i := 0) (by rfl) (by rfl) dX12_isWorth_0 rfl ?_
  refine w_if_lt (pc' := 4) (t := 20) dX12_isWorth_1 rfl rfl (fun c_1 => ?_) (fun c_1 => ?_)
  · skip
    refine w_iconst (pc' := 21) (by decide) dX12_isWorth_20 rfl ?_
    refine w_zreturn rfl (.inl rfl) dX12_isWorth_21 ?_
    first | (exfalso; omega) | exact ⟨gbT (by omega), rfl⟩ | exact ⟨gbF (by omega), rfl⟩
  · skip
    refine w_iload_n (pc' := 5) (i := 0) (by rfl) (by rfl) dX12_isWorth_4 rfl ?_
    refine w_iload_n (pc' := 6) (i := 1) (by rfl) (by rfl) dX12_isWorth_5 rfl ?_
    refine w_icmp_gt (pc' := 9) (t := 20) dX12_isWorth_6 rfl rfl (fun c_6 => ?_) (fun c_6 => ?_)
    · skip
      refine w_iconst (pc' := 21) (by decide) dX12_isWorth_20 rfl ?_
      refine w_zreturn rfl (.inl rfl) dX12_isWorth_21 ?_
      first | (exfalso; omega) | exact ⟨gbT (by omega), rfl⟩ | exact ⟨gbF (by omega), rfl⟩
    · skip
      refine w_iload_n (pc' := 10) (i := 1) (by rfl) (by rfl) dX12_isWorth_9 rfl ?_
      refine w_ldc_w (pc' := 13) (by decide) ct_X12_308 dX12_isWorth_10 rfl ?_
      refine w_icmp_gt (pc' := 16) (t := 20) dX12_isWorth_13 rfl rfl (fun c_13 => ?_) (fun c_13 => ?_)
      · skip
        refine w_iconst (pc' := 21) (by decide) dX12_isWorth_20 rfl ?_
        refine w_zreturn rfl (.inl rfl) dX12_isWorth_21 ?_
        first | (exfalso; omega) | exact ⟨gbT (by omega), rfl⟩ | exact ⟨gbF (by omega), rfl⟩
      · skip
        refine w_iconst (pc' := 17) (by decide) dX12_isWorth_16 rfl ?_
        refine w_goto (pc' := 21) dX12_isWorth_17 rfl ?_
        refine w_zreturn rfl (.inr rfl) dX12_isWorth_21 ?_
        first | (exfalso; omega) | exact ⟨gbT (by omega), rfl⟩ | exact ⟨gbF (by omega), rfl⟩
theorem mo_isGift (σ : gH)  (x : Int) : Mt mX12_isGift 0 [gR 133, gI x] σ (rE (gI (gb (0 ≤ x ∧ x < σ 133 42))) σ) := by
  refine Mt.walk (ls := [gR 133, gI x]) pn_X12 rfl (fun _ _ h => by cases h.1) (Nat.le_of_ble_eq_true rfl) rfl ?_
  refine w_iload_n (pc' := 1) (i := 1) (by rfl) (by rfl) dX12_isGift_0 rfl ?_
  refine w_if_lt (pc' := 4) (t := 16) dX12_isGift_1 rfl rfl (fun c_1 => ?_) (fun c_1 => ?_)
  · skip
    refine w_iconst (pc' := 17) (by decide) dX12_isGift_16 rfl ?_
    refine w_zreturn rfl (.inl rfl) dX12_isGift_17 ?_
    first | (exfalso; omega) | exact ⟨gbT (by omega), rfl⟩ | exact ⟨gbF (by omega), rfl⟩
  · skip
    refine w_iload_n (pc' := 5) (i := 1) (by rfl) (by rfl) dX12_isGift_4 rfl ?_
    refine w_aload_n (pc' := 6) (i := 0) (by rfl) (by rfl) dX12_isGift_5 rfl ?_
    refine v_getI (pc' := 9) (ji := 42) rfl fg_X12_313 kd_133 dX12_isGift_6 rfl ?_
    refine w_icmp_ge (pc' := 12) (t := 16) dX12_isGift_9 rfl rfl (fun c_9 => ?_) (fun c_9 => ?_)
    · skip
      refine w_iconst (pc' := 17) (by decide) dX12_isGift_16 rfl ?_
      refine w_zreturn rfl (.inl rfl) dX12_isGift_17 ?_
      first | (exfalso; omega) | exact ⟨gbT (by omega), rfl⟩ | exact ⟨gbF (by omega), rfl⟩
    · skip
      refine w_iconst (pc' := 13) (by decide) dX12_isGift_12 rfl ?_
      refine w_goto (pc' := 17) dX12_isGift_13 rfl ?_
      refine w_zreturn rfl (.inr rfl) dX12_isGift_17 ?_
      first | (exfalso; omega) | exact ⟨gbT (by omega), rfl⟩ | exact ⟨gbF (by omega), rfl⟩
theorem mo_isParty (σ : gH)  (x : Int) : Mt mX12_isParty 0 [gR 133, gI x] σ (rE (gI (gb (0 ≤ x ∧ x < σ 133 6))) σ) := by
  refine Mt.walk (ls := [gR 133, gI x]) pn_X12 rfl (fun _ _ h => by cases h.1) (Nat.le_of_ble_eq_true rfl) rfl ?_
  refine w_iload_n (pc' := 1) (i := 1) (by rfl) (by rfl) dX12_isParty_0 rfl ?_
  refine w_if_lt (pc' := 4) (t := 16) dX12_isParty_1 rfl rfl (fun c_1 => ?_) (fun c_1 => ?_)
  · skip
    refine w_iconst (pc' := 17) (by decide) dX12_isParty_16 rfl ?_
    refine w_zreturn rfl (.inl rfl) dX12_isParty_17 ?_
    first | (exfalso; omega) | exact ⟨gbT (by omega), rfl⟩ | exact ⟨gbF (by omega), rfl⟩
  · skip
    refine w_iload_n (pc' := 5) (i := 1) (by rfl) (by rfl) dX12_isParty_4 rfl ?_
    refine w_aload_n (pc' := 6) (i := 0) (by rfl) (by rfl) dX12_isParty_5 rfl ?_
    refine v_getI (pc' := 9) (ji := 6) rfl fg_X12_273 kd_133 dX12_isParty_6 rfl ?_
    refine w_icmp_ge (pc' := 12) (t := 16) dX12_isParty_9 rfl rfl (fun c_9 => ?_) (fun c_9 => ?_)
    · skip
      refine w_iconst (pc' := 17) (by decide) dX12_isParty_16 rfl ?_
      refine w_zreturn rfl (.inl rfl) dX12_isParty_17 ?_
      first | (exfalso; omega) | exact ⟨gbT (by omega), rfl⟩ | exact ⟨gbF (by omega), rfl⟩
    · skip
      refine w_iconst (pc' := 13) (by decide) dX12_isParty_12 rfl ?_
      refine w_goto (pc' := 17) dX12_isParty_13 rfl ?_
      refine w_zreturn rfl (.inr rfl) dX12_isParty_17 ?_
      first | (exfalso; omega) | exact ⟨gbT (by omega), rfl⟩ | exact ⟨gbF (by omega), rfl⟩
theorem mo_isPerson (σ : gH) (hp : σ 133 6 ≤ 60) (x : Int) : Mt mX12_isPerson 1 [gR 133, gI x] σ (rE (gI (gb ((0 ≤ x ∧ x < σ 133 6) ∧ σ 135 x = 0))) σ) := by
  refine Mt.walk (ls := [gR 133, gI x]) pn_X12 rfl (fun _ _ h => by cases h.1) (Nat.le_of_ble_eq_true rfl) rfl ?_
  refine w_aload_n (pc' := 1) (i := 0) (by rfl) (by rfl) dX12_isPerson_0 rfl ?_
  refine w_iload_n (pc' := 2) (i := 1) (by rfl) (by rfl) dX12_isPerson_1 rfl ?_
  refine v_callVE (pc' := 5) (st' := [gI (gb (0 ≤ x ∧ x < (σ 133 6)))]) (d' := 0) (av := [gI x]) mi_mX12_isParty lk_X12_276 rfl ci_X12 kd_133 rfl (Nat.le_of_ble_eq_true rfl) (Nat.le_of_ble_eq_true rfl) dX12_isPerson_2 rfl rfl (mo_isParty σ  x) ?_
  refine v_if_eqB (pc' := 8) (t := 21) dX12_isPerson_5 rfl rfl (fun c_5 => ?_) (fun c_5 => ?_)
  · skip
    refine w_iconst (pc' := 22) (by decide) dX12_isPerson_21 rfl ?_
    refine w_zreturn rfl (.inl rfl) dX12_isPerson_22 ?_
    first | (exfalso; omega) | exact ⟨gbT (by omega), rfl⟩ | exact ⟨gbF (by omega), rfl⟩
  · skip
    refine w_aload_n (pc' := 9) (i := 0) (by rfl) (by rfl) dX12_isPerson_8 rfl ?_
    refine w_getS (pc' := 12) (q := 135) fg_X12_13 kd_133 sf_X12_4 gr_133_4 dX12_isPerson_9 rfl ?_
    refine w_iload_n (pc' := 13) (i := 1) (by rfl) (by rfl) dX12_isPerson_12 rfl ?_
    refine w_iald (pc' := 14) kd_135 (by omega) (by omega) dX12_isPerson_13 rfl ?_
    refine w_if_ne (pc' := 17) (t := 21) dX12_isPerson_14 rfl rfl (fun c_14 => ?_) (fun c_14 => ?_)
    · skip
      refine w_iconst (pc' := 22) (by decide) dX12_isPerson_21 rfl ?_
      refine w_zreturn rfl (.inl rfl) dX12_isPerson_22 ?_
      first | (exfalso; omega) | exact ⟨gbT (by omega), rfl⟩ | exact ⟨gbF (by omega), rfl⟩
    · skip
      refine w_iconst (pc' := 18) (by decide) dX12_isPerson_17 rfl ?_
      refine w_goto (pc' := 22) dX12_isPerson_18 rfl ?_
      refine w_zreturn rfl (.inr rfl) dX12_isPerson_22 ?_
      first | (exfalso; omega) | exact ⟨gbT (by omega), rfl⟩ | exact ⟨gbF (by omega), rfl⟩
theorem mo_isHouse (σ : gH) (hp : σ 133 6 ≤ 60) (x : Int) : Mt mX12_isHouse 1 [gR 133, gI x] σ (rE (gI (gb ((0 ≤ x ∧ x < σ 133 6) ∧ 0 < σ 135 x))) σ) := by
  refine Mt.walk (ls := [gR 133, gI x]) pn_X12 rfl (fun _ _ h => by cases h.1) (Nat.le_of_ble_eq_true rfl) rfl ?_
  refine w_aload_n (pc' := 1) (i := 0) (by rfl) (by rfl) dX12_isHouse_0 rfl ?_
  refine w_iload_n (pc' := 2) (i := 1) (by rfl) (by rfl) dX12_isHouse_1 rfl ?_
  refine v_callVE (pc' := 5) (st' := [gI (gb (0 ≤ x ∧ x < (σ 133 6)))]) (d' := 0) (av := [gI x]) mi_mX12_isParty lk_X12_276 rfl ci_X12 kd_133 rfl (Nat.le_of_ble_eq_true rfl) (Nat.le_of_ble_eq_true rfl) dX12_isHouse_2 rfl rfl (mo_isParty σ  x) ?_
  refine v_if_eqB (pc' := 8) (t := 21) dX12_isHouse_5 rfl rfl (fun c_5 => ?_) (fun c_5 => ?_)
  · skip
    refine w_iconst (pc' := 22) (by decide) dX12_isHouse_21 rfl ?_
    refine w_zreturn rfl (.inl rfl) dX12_isHouse_22 ?_
    first | (exfalso; omega) | exact ⟨gbT (by omega), rfl⟩ | exact ⟨gbF (by omega), rfl⟩
  · skip
    refine w_aload_n (pc' := 9) (i := 0) (by rfl) (by rfl) dX12_isHouse_8 rfl ?_
    refine w_getS (pc' := 12) (q := 135) fg_X12_13 kd_133 sf_X12_4 gr_133_4 dX12_isHouse_9 rfl ?_
    refine w_iload_n (pc' := 13) (i := 1) (by rfl) (by rfl) dX12_isHouse_12 rfl ?_
    refine w_iald (pc' := 14) kd_135 (by omega) (by omega) dX12_isHouse_13 rfl ?_
    refine w_if_le (pc' := 17) (t := 21) dX12_isHouse_14 rfl rfl (fun c_14 => ?_) (fun c_14 => ?_)
    · skip
      refine w_iconst (pc' := 22) (by decide) dX12_isHouse_21 rfl ?_
      refine w_zreturn rfl (.inl rfl) dX12_isHouse_22 ?_
      first | (exfalso; omega) | exact ⟨gbT (by omega), rfl⟩ | exact ⟨gbF (by omega), rfl⟩
    · skip
      refine w_iconst (pc' := 18) (by decide) dX12_isHouse_17 rfl ?_
      refine w_goto (pc' := 22) dX12_isHouse_18 rfl ?_
      refine w_zreturn rfl (.inr rfl) dX12_isHouse_22 ?_
      first | (exfalso; omega) | exact ⟨gbT (by omega), rfl⟩ | exact ⟨gbF (by omega), rfl⟩
theorem pa_has (σ : gH) (hp : σ 3 2 ≤ 60) (x : Int) : Mt mX8_has 0 [gR 3, gI x] σ (rE (gI (gb (0 ≤ x ∧ x < σ 3 2))) σ) := by
  refine Mt.walk (ls := [gR 3, gI x]) pn_X8 rfl (fun _ _ h => by cases h.1) (Nat.le_of_ble_eq_true rfl) rfl ?_
  refine w_iload_n (pc' := 1) (i := 1) (by rfl) (by rfl) dX8_has_0 rfl ?_
  refine w_if_lt (pc' := 4) (t := 22) dX8_has_1 rfl rfl (fun c_1 => ?_) (fun c_1 => ?_)
  · skip
    refine w_iconst (pc' := 23) (by decide) dX8_has_22 rfl ?_
    refine w_zreturn rfl (.inl rfl) dX8_has_23 ?_
    first | (exfalso; omega) | exact ⟨gbT (by omega), rfl⟩ | exact ⟨gbF (by omega), rfl⟩
  · skip
    refine w_iload_n (pc' := 5) (i := 1) (by rfl) (by rfl) dX8_has_4 rfl ?_
    refine w_aload_n (pc' := 6) (i := 0) (by rfl) (by rfl) dX8_has_5 rfl ?_
    refine v_getI (pc' := 9) (ji := 2) rfl fg_X8_37 kd_3 dX8_has_6 rfl ?_
    refine w_icmp_ge (pc' := 12) (t := 22) dX8_has_9 rfl rfl (fun c_9 => ?_) (fun c_9 => ?_)
    · skip
      refine w_iconst (pc' := 23) (by decide) dX8_has_22 rfl ?_
      refine w_zreturn rfl (.inl rfl) dX8_has_23 ?_
      first | (exfalso; omega) | exact ⟨gbT (by omega), rfl⟩ | exact ⟨gbF (by omega), rfl⟩
    · skip
      refine w_iload_n (pc' := 13) (i := 1) (by rfl) (by rfl) dX8_has_12 rfl ?_
      refine w_bipush (pc' := 15) (by decide) (by decide) dX8_has_13 rfl ?_
      refine w_icmp_ge (pc' := 18) (t := 22) dX8_has_15 rfl rfl (fun c_15 => ?_) (fun c_15 => ?_)
      · skip
        refine w_iconst (pc' := 23) (by decide) dX8_has_22 rfl ?_
        refine w_zreturn rfl (.inl rfl) dX8_has_23 ?_
        first | (exfalso; omega) | exact ⟨gbT (by omega), rfl⟩ | exact ⟨gbF (by omega), rfl⟩
      · skip
        refine w_iconst (pc' := 19) (by decide) dX8_has_18 rfl ?_
        refine w_goto (pc' := 23) dX8_has_19 rfl ?_
        refine w_zreturn rfl (.inr rfl) dX8_has_23 ?_
        first | (exfalso; omega) | exact ⟨gbT (by omega), rfl⟩ | exact ⟨gbF (by omega), rfl⟩
theorem pa_isPerson (σ : gH) (hp : σ 3 2 ≤ 60) (x : Int) : Mt mX8_isPerson 1 [gR 3, gI x] σ (rE (gI (gb ((0 ≤ x ∧ x < σ 3 2) ∧ σ 4 x = 0))) σ) := by
  refine Mt.walk (ls := [gR 3, gI x]) pn_X8 rfl (fun _ _ h => by cases h.1) (Nat.le_of_ble_eq_true rfl) rfl ?_
  refine w_aload_n (pc' := 1) (i := 0) (by rfl) (by rfl) dX8_isPerson_0 rfl ?_
  refine w_iload_n (pc' := 2) (i := 1) (by rfl) (by rfl) dX8_isPerson_1 rfl ?_
  refine v_callVE (pc' := 5) (st' := [gI (gb (0 ≤ x ∧ x < (σ 3 2)))]) (d' := 0) (av := [gI x]) mi_mX8_has lk_X8_40 rfl ci_X8 kd_3 rfl (Nat.le_of_ble_eq_true rfl) (Nat.le_of_ble_eq_true rfl) dX8_isPerson_2 rfl rfl (pa_has σ (by first | exact hp | omega) x) ?_
  refine v_if_eqB (pc' := 8) (t := 21) dX8_isPerson_5 rfl rfl (fun c_5 => ?_) (fun c_5 => ?_)
  · skip
    refine w_iconst (pc' := 22) (by decide) dX8_isPerson_21 rfl ?_
    refine w_zreturn rfl (.inl rfl) dX8_isPerson_22 ?_
    first | (exfalso; omega) | exact ⟨gbT (by omega), rfl⟩ | exact ⟨gbF (by omega), rfl⟩
  · skip
    refine w_aload_n (pc' := 9) (i := 0) (by rfl) (by rfl) dX8_isPerson_8 rfl ?_
    refine w_getS (pc' := 12) (q := 4) fg_X8_9 kd_3 sf_X8_0 gr_3_0 dX8_isPerson_9 rfl ?_
    refine w_iload_n (pc' := 13) (i := 1) (by rfl) (by rfl) dX8_isPerson_12 rfl ?_
    refine w_iald (pc' := 14) kd_4 (by omega) (by omega) dX8_isPerson_13 rfl ?_
    refine w_if_ne (pc' := 17) (t := 21) dX8_isPerson_14 rfl rfl (fun c_14 => ?_) (fun c_14 => ?_)
    · skip
      refine w_iconst (pc' := 22) (by decide) dX8_isPerson_21 rfl ?_
      refine w_zreturn rfl (.inl rfl) dX8_isPerson_22 ?_
      first | (exfalso; omega) | exact ⟨gbT (by omega), rfl⟩ | exact ⟨gbF (by omega), rfl⟩
    · skip
      refine w_iconst (pc' := 18) (by decide) dX8_isPerson_17 rfl ?_
      refine w_goto (pc' := 22) dX8_isPerson_18 rfl ?_
      refine w_zreturn rfl (.inr rfl) dX8_isPerson_22 ?_
      first | (exfalso; omega) | exact ⟨gbT (by omega), rfl⟩ | exact ⟨gbF (by omega), rfl⟩
theorem pa_canBeHeld (σ : gH) (hp : σ 3 2 ≤ 60) (x : Int) : Mt mX8_canBeHeld 1 [gR 3, gI x] σ (rE (gI (gb ((0 ≤ x ∧ x < σ 3 2) ∧ σ 4 x ≠ 0))) σ) := by
  refine Mt.walk (ls := [gR 3, gI x]) pn_X8 rfl (fun _ _ h => by cases h.1) (Nat.le_of_ble_eq_true rfl) rfl ?_
  refine w_aload_n (pc' := 1) (i := 0) (by rfl) (by rfl) dX8_canBeHeld_0 rfl ?_
  refine w_iload_n (pc' := 2) (i := 1) (by rfl) (by rfl) dX8_canBeHeld_1 rfl ?_
  refine v_callVE (pc' := 5) (st' := [gI (gb (0 ≤ x ∧ x < (σ 3 2)))]) (d' := 0) (av := [gI x]) mi_mX8_has lk_X8_40 rfl ci_X8 kd_3 rfl (Nat.le_of_ble_eq_true rfl) (Nat.le_of_ble_eq_true rfl) dX8_canBeHeld_2 rfl rfl (pa_has σ (by first | exact hp | omega) x) ?_
  refine v_if_eqB (pc' := 8) (t := 21) dX8_canBeHeld_5 rfl rfl (fun c_5 => ?_) (fun c_5 => ?_)
  · skip
    refine w_iconst (pc' := 22) (by decide) dX8_canBeHeld_21 rfl ?_
    refine w_zreturn rfl (.inl rfl) dX8_canBeHeld_22 ?_
    first | (exfalso; omega) | exact ⟨gbT (by omega), rfl⟩ | exact ⟨gbF (by omega), rfl⟩
  · skip
    refine w_aload_n (pc' := 9) (i := 0) (by rfl) (by rfl) dX8_canBeHeld_8 rfl ?_
    refine w_getS (pc' := 12) (q := 4) fg_X8_9 kd_3 sf_X8_0 gr_3_0 dX8_canBeHeld_9 rfl ?_
    refine w_iload_n (pc' := 13) (i := 1) (by rfl) (by rfl) dX8_canBeHeld_12 rfl ?_
    refine w_iald (pc' := 14) kd_4 (by omega) (by omega) dX8_canBeHeld_13 rfl ?_
    refine w_if_eq (pc' := 17) (t := 21) dX8_canBeHeld_14 rfl rfl (fun c_14 => ?_) (fun c_14 => ?_)
    · skip
      refine w_iconst (pc' := 22) (by decide) dX8_canBeHeld_21 rfl ?_
      refine w_zreturn rfl (.inl rfl) dX8_canBeHeld_22 ?_
      first | (exfalso; omega) | exact ⟨gbT (by omega), rfl⟩ | exact ⟨gbF (by omega), rfl⟩
    · skip
      refine w_iconst (pc' := 18) (by decide) dX8_canBeHeld_17 rfl ?_
      refine w_goto (pc' := 22) dX8_canBeHeld_18 rfl ?_
      refine w_zreturn rfl (.inr rfl) dX8_canBeHeld_22 ?_
      first | (exfalso; omega) | exact ⟨gbT (by omega), rfl⟩ | exact ⟨gbF (by omega), rfl⟩
