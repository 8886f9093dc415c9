/-! degree and head: the calls (gen/mod_q1.py) -/
/-- tests of the reference, in the class's rows -/
theorem qo_isParty {σ0 σ : gH} (hI : Inv σ0) (hq : lm σ = lm σ0) (x : Int) : Mt mX12_isParty 0 [gR 133, gI x] σ (rE (gI (gb (0 ≤ x ∧ x < σ0 3 2))) σ) := by
  have e : σ 133 6 = σ0 3 2 := (lm_rd hq (.inr rfl)).trans hI.f6
  have k := mo_isParty σ x
  rw [e] at k
  exact k
theorem qo_isPerson {σ0 σ : gH} (hI : Inv σ0) (hq : lm σ = lm σ0) (x : Int) : Mt mX12_isPerson 1 [gR 133, gI x] σ (rE (gI (gb ((0 ≤ x ∧ x < σ0 3 2) ∧ σ0 4 x = 0))) σ) := by
  have e : σ 133 6 = σ0 3 2 := (lm_rd hq (.inr rfl)).trans hI.f6
  have k := mo_isPerson σ (by rw [e]; exact hI.f.hp) x
  have e2 : gb ((0 ≤ x ∧ x < σ 133 6) ∧ σ 135 x = 0) = gb ((0 ≤ x ∧ x < σ0 3 2) ∧ σ0 4 x = 0) := gb_congr (by
    rw [e]
    refine and_congr_right fun h => ?_
    rw [lm_rd hq (k := 135) (i := x) (.inr rfl), hI.e135 h.1 h.2])
  rw [e2] at k
  exact k
theorem qo_isHouse {σ0 σ : gH} (hI : Inv σ0) (hq : lm σ = lm σ0) (x : Int) : Mt mX12_isHouse 1 [gR 133, gI x] σ (rE (gI (gb ((0 ≤ x ∧ x < σ0 3 2) ∧ σ0 4 x ≠ 0))) σ) := by
  have e : σ 133 6 = σ0 3 2 := (lm_rd hq (.inr rfl)).trans hI.f6
  have k := mo_isHouse σ (by rw [e]; exact hI.f.hp) x
  have e2 : gb ((0 ≤ x ∧ x < σ 133 6) ∧ 0 < σ 135 x) = gb ((0 ≤ x ∧ x < σ0 3 2) ∧ σ0 4 x ≠ 0) := gb_congr (by
    rw [e]
    refine and_congr_right fun h => ?_
    rw [lm_rd hq (k := 135) (i := x) (.inr rfl), hI.e135 h.1 h.2]
    have p := (hI.f.party.2.2.2 x h.1 h.2).2.1
    omega)
  rw [e2] at k
  exact k
theorem qo_isGift {σ0 σ : gH} (hI : Inv σ0) (hq : lm σ = lm σ0) (x : Int) : Mt mX12_isGift 0 [gR 133, gI x] σ (rE (gI (gb (0 ≤ x ∧ x < σ0 41 11))) σ) := by
  have e : σ 133 42 = σ0 41 11 := (lm_rd hq (.inr rfl)).trans hI.f42
  have k := mo_isGift σ x
  rw [e] at k
  exact k
theorem x_head {σ0 : gH} (hI : Inv σ0) (x d t : Int) : Mt mX11_head 30 [gR 0, gI x, gI d, gI t] σ0 (fun v σ' => v = gI (if (0 ≤ x ∧ x < σ0 3 2) ∧ 0 ≤ d ∧ d ≤ 9999 then HD (AR σ0 d t) x else -1) ∧ QC σ0 σ') := by
  refine Mt.walk (ls := [gR 0, gI x, gI d, gI t]) pn_X11 rfl (fun _ _ h => by cases h.1) (Nat.le_of_ble_eq_true rfl) rfl ?_
  have hp := hI.f.hp
  refine w_aload_n (pc' := 1) (i := 0) (by rfl) (by rfl) dX11_head_0 rfl ?_
  refine w_getS (pc' := 4) (q := 3) fg_X11_21 kd_0 sf_X11_5 gr_0_5 dX11_head_1 rfl ?_
  refine w_iload_n (pc' := 5) (i := 1) (by rfl) (by rfl) dX11_head_4 rfl ?_
  refine v_callVE (pc' := 8) (st' := [gI (gb (0 ≤ x ∧ x < (σ0 3 2)))]) (d' := 0) (av := [gI x]) mi_mX8_has lk_X11_111 rfl ci_X8 kd_3 rfl (Nat.le_of_ble_eq_true rfl) (Nat.le_of_ble_eq_true rfl) dX11_head_5 rfl rfl (hmP (F := fun z => gI (gb (0 ≤ x ∧ x < (z 3 2)))) ((QC.refl hI).1) (fun _ => rfl) (pa_has σ0 (hm_FA ((QC.refl hI).1) hI.1).1.hp x)) ?_
  refine v_if_eqB (pc' := 11) (t := 18) dX11_head_8 rfl rfl (fun c_8 => ?_) (fun c_8 => ?_)
  · skip
    refine w_iconst (pc' := 19) (by decide) dX11_head_18 rfl ?_
    refine v_ireturn rfl dX11_head_19 ?_
    exact ⟨by rw [if_neg (by omega)], QC.refl hI⟩
  · skip
    refine w_iload_n (pc' := 12) (i := 2) (by rfl) (by rfl) dX11_head_11 rfl ?_
    refine v_callSE (pc' := 15) (st' := [gI (gb (0 ≤ d ∧ d ≤ 9999))]) (d' := 0) (av := [gI d]) ms_mX11_isDay st_mX11_isDay lk_X11_129 rfl rfl (Nat.le_of_ble_eq_true rfl) (Nat.le_of_ble_eq_true rfl) dX11_head_12 rfl rfl (cl_isDay σ0 d) ?_
    refine v_if_neB (pc' := 18) (t := 20) dX11_head_15 rfl rfl (fun c_15 => ?_) (fun c_15 => ?_)
    · skip
      refine w_aload_n (pc' := 21) (i := 0) (by rfl) (by rfl) dX11_head_20 rfl ?_
      refine w_getS (pc' := 24) (q := 14) fg_X11_28 kd_0 sf_X11_6 gr_0_6 dX11_head_21 rfl ?_
      refine w_iload_n (pc' := 25) (i := 1) (by rfl) (by rfl) dX11_head_24 rfl ?_
      refine w_iload_n (pc' := 26) (i := 2) (by rfl) (by rfl) dX11_head_25 rfl ?_
      refine w_iload_n (pc' := 27) (i := 3) (by rfl) (by rfl) dX11_head_26 rfl ?_
      refine w_callV (pc' := 30) (d' := 3) (av := [gI x, gI d, gI t]) mi_mX7_headOf lk_X11_192 rfl ci_X7 kd_14 rfl (Nat.le_of_ble_eq_true rfl) (Nat.le_of_ble_eq_true rfl) dX11_head_27 rfl (k_headOf hI (QC.refl hI) x d t (by omega)) (fun v_27 σ27 q_27 => ?_)
      obtain ⟨rfl, hq_27, hk_27⟩ := q_27
      show Wp _ _ _ _ _ _ [gI (HD (AR σ0 d t) x)]
      refine v_ireturn rfl dX11_head_30 ?_
      exact ⟨by rw [if_pos (by omega)], hq_27⟩
    · skip
      refine w_iconst (pc' := 19) (by decide) dX11_head_18 rfl ?_
      refine v_ireturn rfl dX11_head_19 ?_
      exact ⟨by rw [if_neg (by omega)], QC.refl hI⟩
theorem m_head {σ0 : gH} (hI : Inv σ0) (x d t : Int) : Mt mX12_head 30 [gR 133, gI x, gI d, gI t] σ0 (fun v σ' => v = gI (if (0 ≤ x ∧ x < σ0 3 2) ∧ 0 ≤ d ∧ d ≤ 9999 then HD (AR σ0 d t) x else -1) ∧ QM σ0 σ') := by
  refine Mt.walk (ls := [gR 133, gI x, gI d, gI t]) pn_X12 rfl (fun _ _ h => by cases h.1) (Nat.le_of_ble_eq_true rfl) rfl ?_
  have hp := hI.f.hp
  refine w_aload_n (pc' := 1) (i := 0) (by rfl) (by rfl) dX12_head_0 rfl ?_
  refine w_iconst (pc' := 2) (by decide) dX12_head_1 rfl ?_
  refine v_putI (pc' := 5) (ji := 0) rfl fp_X12_244 kd_133 sf_X12_0 dX12_head_2 rfl ?_
  refine w_aload_n (pc' := 6) (i := 0) (by rfl) (by rfl) dX12_head_5 rfl ?_
  refine w_iload_n (pc' := 7) (i := 1) (by rfl) (by rfl) dX12_head_6 rfl ?_
  refine v_callVE (pc' := 10) (st' := [gI (gb (0 ≤ x ∧ x < σ0 3 2))]) (d' := 0) (av := [gI x]) mi_mX12_isParty lk_X12_276 rfl ci_X12 kd_133 rfl (Nat.le_of_ble_eq_true rfl) (Nat.le_of_ble_eq_true rfl) dX12_head_7 rfl rfl (qo_isParty hI ((lm_up (k := 133) (i := 0) (v := 0) (by decide)).trans (QM.refl hI).1) x) ?_
  refine v_if_eqB (pc' := 13) (t := 20) dX12_head_10 rfl rfl (fun c_10 => ?_) (fun c_10 => ?_)
  · skip
    refine w_iconst (pc' := 21) (by decide) dX12_head_20 rfl ?_
    refine v_ireturn rfl dX12_head_21 ?_
    exact ⟨by rw [if_neg (by omega)], QM.up (QM.refl hI) (by decide) (fun h => h)⟩
  · skip
    refine w_iload_n (pc' := 14) (i := 2) (by rfl) (by rfl) dX12_head_13 rfl ?_
    refine v_callSE (pc' := 17) (st' := [gI (gb (0 ≤ d ∧ d ≤ 9999))]) (d' := 0) (av := [gI d]) ms_mX12_isDay st_mX12_isDay lk_X12_279 rfl rfl (Nat.le_of_ble_eq_true rfl) (Nat.le_of_ble_eq_true rfl) dX12_head_14 rfl rfl (mo_isDay (gUp σ0 133 0 0) d) ?_
    refine v_if_neB (pc' := 20) (t := 22) dX12_head_17 rfl rfl (fun c_17 => ?_) (fun c_17 => ?_)
    · skip
      refine w_aload_n (pc' := 23) (i := 0) (by rfl) (by rfl) dX12_head_22 rfl ?_
      refine w_iload_n (pc' := 24) (i := 2) (by rfl) (by rfl) dX12_head_23 rfl ?_
      refine w_iload_n (pc' := 25) (i := 3) (by rfl) (by rfl) dX12_head_24 rfl ?_
      refine w_callV (pc' := 28) (d' := 2) (av := [gI d, gI t]) mi_mX12_work lk_X12_349 rfl ci_X12 kd_133 rfl (Nat.le_of_ble_eq_true rfl) (Nat.le_of_ble_eq_true rfl) dX12_head_25 rfl (q_work hI (QM.up (k := 133) (i := 0) (v := 0) (QM.refl hI) (by decide) (fun h => h)) d t) (fun v_25 σ25 q_25 => ?_)
      obtain ⟨rfl, hq_25, hk_25, hw_25⟩ := q_25
      show Wp _ _ _ _ _ _ []
      refine w_aload_n (pc' := 29) (i := 0) (by rfl) (by rfl) dX12_head_28 rfl ?_
      refine w_getS (pc' := 32) (q := 169) fg_X12_121 kd_133 sf_X12_45 gr_133_45 dX12_head_29 rfl ?_
      refine w_iload_n (pc' := 33) (i := 1) (by rfl) (by rfl) dX12_head_32 rfl ?_
      refine w_iald (pc' := 34) kd_169 (by omega) (by omega) dX12_head_33 rfl ?_
      refine v_ireturn rfl dX12_head_34 ?_
      exact ⟨by rw [if_pos (by omega)]; exact congrArg gI (hw_25.2 x (by omega) (by omega)), hq_25⟩
    · skip
      refine w_iconst (pc' := 21) (by decide) dX12_head_20 rfl ?_
      refine v_ireturn rfl dX12_head_21 ?_
      exact ⟨by rw [if_neg (by omega)], QM.up (QM.refl hI) (by decide) (fun h => h)⟩
theorem ci_head (x d t : Int) : CI Inv mX11_head mX12_head [gI x, gI d, gI t] := CI_query (fun σ0 => if (0 ≤ x ∧ x < σ0 3 2) ∧ 0 ≤ d ∧ d ≤ 9999 then HD (AR σ0 d t) x else -1) (fun σ0 hI => x_head hI x d t) (fun σ0 hI => m_head hI x d t) (fun _ => rfl)
theorem x_degree {σ0 : gH} (hI : Inv σ0) (x y d t : Int) : Mt mX11_degree 30 [gR 0, gI x, gI y, gI d, gI t] σ0 (fun v σ' => v = gI (if ((0 ≤ x ∧ x < σ0 3 2) ∧ σ0 4 x = 0) ∧ ((0 ≤ y ∧ y < σ0 3 2) ∧ σ0 4 y = 0) ∧ 0 ≤ d ∧ d ≤ 9999 then DG σ0 x d t y else -1) ∧ QC σ0 σ') := by
  refine Mt.walk (ls := [gR 0, gI x, gI y, gI d, gI t]) pn_X11 rfl (fun _ _ h => by cases h.1) (Nat.le_of_ble_eq_true rfl) rfl ?_
  have hp := hI.f.hp
  refine w_aload_n (pc' := 1) (i := 0) (by rfl) (by rfl) dX11_degree_0 rfl ?_
  refine w_getS (pc' := 4) (q := 3) fg_X11_21 kd_0 sf_X11_5 gr_0_5 dX11_degree_1 rfl ?_
  refine w_iload_n (pc' := 5) (i := 1) (by rfl) (by rfl) dX11_degree_4 rfl ?_
  refine v_callVE (pc' := 8) (st' := [gI (gb ((0 ≤ x ∧ x < (σ0 3 2)) ∧ (σ0 4 x) = 0))]) (d' := 1) (av := [gI x]) mi_mX8_isPerson lk_X11_132 rfl ci_X8 kd_3 rfl (Nat.le_of_ble_eq_true rfl) (Nat.le_of_ble_eq_true rfl) dX11_degree_5 rfl rfl (hmP (F := fun z => gI (gb ((0 ≤ x ∧ x < (z 3 2)) ∧ (z 4 x) = 0))) ((QC.refl hI).1) (fun _ => rfl) (pa_isPerson σ0 (hm_FA ((QC.refl hI).1) hI.1).1.hp x)) ?_
  refine v_if_eqB (pc' := 11) (t := 29) dX11_degree_8 rfl rfl (fun c_8 => ?_) (fun c_8 => ?_)
  · skip
    refine w_iconst (pc' := 30) (by decide) dX11_degree_29 rfl ?_
    refine v_ireturn rfl dX11_degree_30 ?_
    exact ⟨by rw [if_neg (by omega)], QC.refl hI⟩
  · skip
    refine w_aload_n (pc' := 12) (i := 0) (by rfl) (by rfl) dX11_degree_11 rfl ?_
    refine w_getS (pc' := 15) (q := 3) fg_X11_21 kd_0 sf_X11_5 gr_0_5 dX11_degree_12 rfl ?_
    refine w_iload_n (pc' := 16) (i := 2) (by rfl) (by rfl) dX11_degree_15 rfl ?_
    refine v_callVE (pc' := 19) (st' := [gI (gb ((0 ≤ y ∧ y < (σ0 3 2)) ∧ (σ0 4 y) = 0))]) (d' := 1) (av := [gI y]) mi_mX8_isPerson lk_X11_132 rfl ci_X8 kd_3 rfl (Nat.le_of_ble_eq_true rfl) (Nat.le_of_ble_eq_true rfl) dX11_degree_16 rfl rfl (hmP (F := fun z => gI (gb ((0 ≤ y ∧ y < (z 3 2)) ∧ (z 4 y) = 0))) ((QC.refl hI).1) (fun _ => rfl) (pa_isPerson σ0 (hm_FA ((QC.refl hI).1) hI.1).1.hp y)) ?_
    refine v_if_eqB (pc' := 22) (t := 29) dX11_degree_19 rfl rfl (fun c_19 => ?_) (fun c_19 => ?_)
    · skip
      refine w_iconst (pc' := 30) (by decide) dX11_degree_29 rfl ?_
      refine v_ireturn rfl dX11_degree_30 ?_
      exact ⟨by rw [if_neg (by omega)], QC.refl hI⟩
    · skip
      refine w_iload_n (pc' := 23) (i := 3) (by rfl) (by rfl) dX11_degree_22 rfl ?_
      refine v_callSE (pc' := 26) (st' := [gI (gb (0 ≤ d ∧ d ≤ 9999))]) (d' := 0) (av := [gI d]) ms_mX11_isDay st_mX11_isDay lk_X11_129 rfl rfl (Nat.le_of_ble_eq_true rfl) (Nat.le_of_ble_eq_true rfl) dX11_degree_23 rfl rfl (cl_isDay σ0 d) ?_
      refine v_if_neB (pc' := 29) (t := 31) dX11_degree_26 rfl rfl (fun c_26 => ?_) (fun c_26 => ?_)
      · skip
        refine w_aload_n (pc' := 32) (i := 0) (by rfl) (by rfl) dX11_degree_31 rfl ?_
        refine w_getS (pc' := 35) (q := 3) fg_X11_21 kd_0 sf_X11_5 gr_0_5 dX11_degree_32 rfl ?_
        refine w_iload_n (pc' := 36) (i := 1) (by rfl) (by rfl) dX11_degree_35 rfl ?_
        refine w_iload_n (pc' := 37) (i := 2) (by rfl) (by rfl) dX11_degree_36 rfl ?_
        refine w_iload_n (pc' := 38) (i := 3) (by rfl) (by rfl) dX11_degree_37 rfl ?_
        refine w_iload (pc' := 40) (by rfl) dX11_degree_38 rfl ?_
        refine w_callV (pc' := 43) (d' := 2) (av := [gI x, gI y, gI d, gI t]) mi_mX8_degreeOf lk_X11_196 rfl ci_X8 kd_3 rfl (Nat.le_of_ble_eq_true rfl) (Nat.le_of_ble_eq_true rfl) dX11_degree_40 rfl (k_degreeOf hI (QC.refl hI) x y d t (by omega) (by omega)) (fun v_40 σ40 q_40 => ?_)
        obtain ⟨rfl, hq_40, hk_40⟩ := q_40
        show Wp _ _ _ _ _ _ [gI (DG σ0 x d t y)]
        refine v_ireturn rfl dX11_degree_43 ?_
        exact ⟨by rw [if_pos (by omega)], hq_40⟩
      · skip
        refine w_iconst (pc' := 30) (by decide) dX11_degree_29 rfl ?_
        refine v_ireturn rfl dX11_degree_30 ?_
        exact ⟨by rw [if_neg (by omega)], QC.refl hI⟩
theorem m_degree {σ0 : gH} (hI : Inv σ0) (x y d t : Int) : Mt mX12_degree 30 [gR 133, gI x, gI y, gI d, gI t] σ0 (fun v σ' => v = gI (if ((0 ≤ x ∧ x < σ0 3 2) ∧ σ0 4 x = 0) ∧ ((0 ≤ y ∧ y < σ0 3 2) ∧ σ0 4 y = 0) ∧ 0 ≤ d ∧ d ≤ 9999 then DG σ0 x d t y else -1) ∧ QM σ0 σ') := by
  refine Mt.walk (ls := [gR 133, gI x, gI y, gI d, gI t]) pn_X12 rfl (fun _ _ h => by cases h.1) (Nat.le_of_ble_eq_true rfl) rfl ?_
  have hp := hI.f.hp
  refine w_aload_n (pc' := 1) (i := 0) (by rfl) (by rfl) dX12_degree_0 rfl ?_
  refine w_iconst (pc' := 2) (by decide) dX12_degree_1 rfl ?_
  refine v_putI (pc' := 5) (ji := 0) rfl fp_X12_244 kd_133 sf_X12_0 dX12_degree_2 rfl ?_
  refine w_aload_n (pc' := 6) (i := 0) (by rfl) (by rfl) dX12_degree_5 rfl ?_
  refine w_iload_n (pc' := 7) (i := 1) (by rfl) (by rfl) dX12_degree_6 rfl ?_
  refine v_callVE (pc' := 10) (st' := [gI (gb ((0 ≤ x ∧ x < σ0 3 2) ∧ σ0 4 x = 0))]) (d' := 1) (av := [gI x]) mi_mX12_isPerson lk_X12_299 rfl ci_X12 kd_133 rfl (Nat.le_of_ble_eq_true rfl) (Nat.le_of_ble_eq_true rfl) dX12_degree_7 rfl rfl (qo_isPerson hI ((lm_up (k := 133) (i := 0) (v := 0) (by decide)).trans (QM.refl hI).1) x) ?_
  refine v_if_eqB (pc' := 13) (t := 28) dX12_degree_10 rfl rfl (fun c_10 => ?_) (fun c_10 => ?_)
  · skip
    refine w_iconst (pc' := 29) (by decide) dX12_degree_28 rfl ?_
    refine v_ireturn rfl dX12_degree_29 ?_
    exact ⟨by rw [if_neg (by omega)], QM.up (QM.refl hI) (by decide) (fun h => h)⟩
  · skip
    refine w_aload_n (pc' := 14) (i := 0) (by rfl) (by rfl) dX12_degree_13 rfl ?_
    refine w_iload_n (pc' := 15) (i := 2) (by rfl) (by rfl) dX12_degree_14 rfl ?_
    refine v_callVE (pc' := 18) (st' := [gI (gb ((0 ≤ y ∧ y < σ0 3 2) ∧ σ0 4 y = 0))]) (d' := 1) (av := [gI y]) mi_mX12_isPerson lk_X12_299 rfl ci_X12 kd_133 rfl (Nat.le_of_ble_eq_true rfl) (Nat.le_of_ble_eq_true rfl) dX12_degree_15 rfl rfl (qo_isPerson hI ((lm_up (k := 133) (i := 0) (v := 0) (by decide)).trans (QM.refl hI).1) y) ?_
    refine v_if_eqB (pc' := 21) (t := 28) dX12_degree_18 rfl rfl (fun c_18 => ?_) (fun c_18 => ?_)
    · skip
      refine w_iconst (pc' := 29) (by decide) dX12_degree_28 rfl ?_
      refine v_ireturn rfl dX12_degree_29 ?_
      exact ⟨by rw [if_neg (by omega)], QM.up (QM.refl hI) (by decide) (fun h => h)⟩
    · skip
      refine w_iload_n (pc' := 22) (i := 3) (by rfl) (by rfl) dX12_degree_21 rfl ?_
      refine v_callSE (pc' := 25) (st' := [gI (gb (0 ≤ d ∧ d ≤ 9999))]) (d' := 0) (av := [gI d]) ms_mX12_isDay st_mX12_isDay lk_X12_279 rfl rfl (Nat.le_of_ble_eq_true rfl) (Nat.le_of_ble_eq_true rfl) dX12_degree_22 rfl rfl (mo_isDay (gUp σ0 133 0 0) d) ?_
      refine v_if_neB (pc' := 28) (t := 30) dX12_degree_25 rfl rfl (fun c_25 => ?_) (fun c_25 => ?_)
      · skip
        refine w_aload_n (pc' := 31) (i := 0) (by rfl) (by rfl) dX12_degree_30 rfl ?_
        refine w_iload_n (pc' := 32) (i := 1) (by rfl) (by rfl) dX12_degree_31 rfl ?_
        refine w_iload_n (pc' := 33) (i := 3) (by rfl) (by rfl) dX12_degree_32 rfl ?_
        refine w_iload (pc' := 35) (by rfl) dX12_degree_33 rfl ?_
        refine w_callV (pc' := 38) (d' := 1) (av := [gI x, gI d, gI t]) mi_mX12_reach lk_X12_372 rfl ci_X12 kd_133 rfl (Nat.le_of_ble_eq_true rfl) (Nat.le_of_ble_eq_true rfl) dX12_degree_35 rfl (q_reach hI (QM.up (k := 133) (i := 0) (v := 0) (QM.refl hI) (by decide) (fun h => h)) x d t ⟨by omega, by omega⟩) (fun v_35 σ_35 q_35 => ?_)
        obtain ⟨rfl, f_35, rfl, hf_35⟩ := q_35
        refine Wp.heq (σ' := gUr (gUp σ0 133 0 0) 172 f_35) rfl ?_
        show Wp _ _ _ _ _ _ []
        refine w_aload_n (pc' := 39) (i := 0) (by rfl) (by rfl) dX12_degree_38 rfl ?_
        refine w_getS (pc' := 42) (q := 172) fg_X12_136 kd_133 sf_X12_53 gr_133_53 dX12_degree_39 rfl ?_
        refine w_iload_n (pc' := 43) (i := 2) (by rfl) (by rfl) dX12_degree_42 rfl ?_
        refine w_iald (pc' := 44) kd_172 (by omega) (by omega) dX12_degree_43 rfl ?_
        show Wp _ _ _ _ _ _ [gI (f_35 y)]
        refine v_ireturn rfl dX12_degree_44 ?_
        exact ⟨by rw [if_pos (by omega)]; exact congrArg gI (hf_35 y (by omega) (by omega)), QM.ur (QM.up (QM.refl hI) (by decide) (fun h => h)) (lm_nfC 172 (by decide)) (fun h => h)⟩
      · skip
        refine w_iconst (pc' := 29) (by decide) dX12_degree_28 rfl ?_
        refine v_ireturn rfl dX12_degree_29 ?_
        exact ⟨by rw [if_neg (by omega)], QM.up (QM.refl hI) (by decide) (fun h => h)⟩
theorem ci_degree (x y d t : Int) : CI Inv mX11_degree mX12_degree [gI x, gI y, gI d, gI t] := CI_query (fun σ0 => if ((0 ≤ x ∧ x < σ0 3 2) ∧ σ0 4 x = 0) ∧ ((0 ≤ y ∧ y < σ0 3 2) ∧ σ0 4 y = 0) ∧ 0 ≤ d ∧ d ≤ 9999 then DG σ0 x d t y else -1) (fun σ0 hI => x_degree hI x y d t) (fun σ0 hI => m_degree hI x y d t) (fun _ => rfl)
