/-! what a group gave: class and reference (gen/mod_weigh.py) -/
theorem gift_row {σ : gH} (hI : Inv σ) {g : Int} (h0 : 0 ≤ g) (h1 : g < σ 41 11) : (0 ≤ σ 42 g ∧ σ 42 g < σ 3 2) ∧ (0 ≤ σ 43 g ∧ σ 43 g < σ 3 2 ∧ σ 4 (σ 43 g) = 0) ∧ σ 42 g ≠ σ 43 g ∧ (0 ≤ σ 44 g ∧ σ 44 g ≤ 3) ∧ (0 ≤ σ 45 g ∧ σ 45 g ≤ 9999) ∧ (σ 46 g = 0 ∨ σ 46 g = 1) ∧ (0 ≤ σ 49 g ∧ σ 49 g ≤ 9999) ∧ (σ 50 g = -1 ∨ 0 ≤ σ 50 g) ∧ (σ 52 g = -1 ∨ 0 ≤ σ 52 g) := by
  have k := (hI.f.gift.2.2.2 g h0 h1).2
  unfold isP isPe isP isDy at k
  omega
theorem LEAST_in {σ : gH} (hI : Inv σ) {g t : Int} (h0 : 0 ≤ g) (h1 : g < σ 41 11) : 0 ≤ LEAST σ g t ∧ LEAST σ g t ≤ 1000000 := by
  unfold LEAST
  have w := LW_lt σ g t hI.f.worth.2.1
  split
  · rename_i e
    have k := (hI.f.worth.2.2.2 (LW σ g t) e w.2).2.2.2.2.2.2.1
    unfold isWo at k
    omega
  · have k := (hI.f.gift.2.2.2 g h0 h1).2.2.2.2.2.2.2.2.1
    unfold isWo at k
    omega
theorem BACK_in {σ : gH} (hI : Inv σ) {g t : Int} (h0 : 0 ≤ g) (h1 : g < σ 41 11) : BACK σ g t = -1 ∨ 0 ≤ BACK σ g t := by
  have k := gift_row hI h0 h1
  unfold BACK
  split <;> omega
theorem gr_n {σ0 σ : gH} (e : hm σ = hm σ0) {g : Int} (h : 0 ≤ g ∧ g < σ0 41 11) : 0 ≤ g ∧ g < σ 41 11 := by
  rw [hm_rd e (k := 41) (i := 11) (.inr rfl)]; exact h
theorem gi_giver (σ : gH) (hz : 0 ≤ σ 41 11 ∧ σ 41 11 ≤ 120 ∧ 0 ≤ σ 41 16 ∧ σ 41 16 ≤ 200) (g : Int) (hg : 0 ≤ g ∧ g < σ 41 11) : Mt mX2_giver 1 [gR 41, gI g] σ (rE (gI (σ 42 g)) σ) := by
  have k := g_giver σ hz g
  rw [if_pos hg] at k
  exact k
theorem gi_receiver (σ : gH) (hz : 0 ≤ σ 41 11 ∧ σ 41 11 ≤ 120 ∧ 0 ≤ σ 41 16 ∧ σ 41 16 ≤ 200) (g : Int) (hg : 0 ≤ g ∧ g < σ 41 11) : Mt mX2_receiver 1 [gR 41, gI g] σ (rE (gI (σ 43 g)) σ) := by
  have k := g_receiver σ hz g
  rw [if_pos hg] at k
  exact k
theorem gi_sortOf (σ : gH) (hz : 0 ≤ σ 41 11 ∧ σ 41 11 ≤ 120 ∧ 0 ≤ σ 41 16 ∧ σ 41 16 ≤ 200) (g : Int) (hg : 0 ≤ g ∧ g < σ 41 11) : Mt mX2_sortOf 1 [gR 41, gI g] σ (rE (gI (σ 44 g)) σ) := by
  have k := g_sortOf σ hz g
  rw [if_pos hg] at k
  exact k
theorem gi_dayOf (σ : gH) (hz : 0 ≤ σ 41 11 ∧ σ 41 11 ≤ 120 ∧ 0 ≤ σ 41 16 ∧ σ 41 16 ≤ 200) (g : Int) (hg : 0 ≤ g ∧ g < σ 41 11) : Mt mX2_dayOf 1 [gR 41, gI g] σ (rE (gI (σ 45 g)) σ) := by
  have k := g_dayOf σ hz g
  rw [if_pos hg] at k
  exact k
theorem q_backOf {σ0 σ : gH} (hI : Inv σ0) (hq : QM σ0 σ) (g t : Int) (hg : 0 ≤ g ∧ g < σ0 41 11) : Mt mX12_backOf 0 [gR 133, gI g, gI t] σ (rE (gI (BACK σ0 g t)) σ) := by
  refine Mt.walk (ls := [gR 133, gI g, gI t]) pn_X12 rfl (fun _ _ h => by cases h.1) (Nat.le_of_ble_eq_true rfl) rfl ?_
  have hz := hI.f.hz
  have hrow := gift_row hI hg.1 hg.2
  refine w_aload_n (pc' := 1) (i := 0) (by rfl) (by rfl) dX12_backOf_0 rfl ?_
  refine w_getS (pc' := 4) (q := 160) fg_X12_93 kd_133 sf_X12_34 gr_133_34 dX12_backOf_1 rfl ?_
  refine w_iload_n (pc' := 5) (i := 1) (by rfl) (by rfl) dX12_backOf_4 rfl ?_
  refine w_iald (pc' := 6) kd_160 (by omega) (by omega) dX12_backOf_5 rfl ?_
  rw [(hq).rd (k := 160) (i := g) (.inr rfl)]
  rw [hI.e160 (i := g) (by omega) (by omega)]
  refine w_iconst (pc' := 7) (by decide) dX12_backOf_6 rfl ?_
  refine w_icmp_eq (pc' := 10) (t := 29) dX12_backOf_7 rfl rfl (fun c_7 => ?_) (fun c_7 => ?_)
  · skip
    refine w_iconst (pc' := 30) (by decide) dX12_backOf_29 rfl ?_
    refine v_ireturn rfl dX12_backOf_30 ?_
    first
      | (exfalso; omega)
      | exact ⟨congrArg gI (by unfold BACK; first | (rw [if_pos (by omega)]) | (rw [if_neg (by omega)])), rfl⟩
  · skip
    refine w_aload_n (pc' := 11) (i := 0) (by rfl) (by rfl) dX12_backOf_10 rfl ?_
    refine w_getS (pc' := 14) (q := 161) fg_X12_96 kd_133 sf_X12_35 gr_133_35 dX12_backOf_11 rfl ?_
    refine w_iload_n (pc' := 15) (i := 1) (by rfl) (by rfl) dX12_backOf_14 rfl ?_
    refine w_iald (pc' := 16) kd_161 (by omega) (by omega) dX12_backOf_15 rfl ?_
    rw [(hq).rd (k := 161) (i := g) (.inr rfl)]
    rw [hI.e161 (i := g) (by omega) (by omega) (by omega)]
    refine w_iload_n (pc' := 17) (i := 2) (by rfl) (by rfl) dX12_backOf_16 rfl ?_
    refine w_icmp_gt (pc' := 20) (t := 29) dX12_backOf_17 rfl rfl (fun c_17 => ?_) (fun c_17 => ?_)
    · skip
      refine w_iconst (pc' := 30) (by decide) dX12_backOf_29 rfl ?_
      refine v_ireturn rfl dX12_backOf_30 ?_
      first
        | (exfalso; omega)
        | exact ⟨congrArg gI (by unfold BACK; first | (rw [if_pos (by omega)]) | (rw [if_neg (by omega)])), rfl⟩
    · skip
      refine w_aload_n (pc' := 21) (i := 0) (by rfl) (by rfl) dX12_backOf_20 rfl ?_
      refine w_getS (pc' := 24) (q := 160) fg_X12_93 kd_133 sf_X12_34 gr_133_34 dX12_backOf_21 rfl ?_
      refine w_iload_n (pc' := 25) (i := 1) (by rfl) (by rfl) dX12_backOf_24 rfl ?_
      refine w_iald (pc' := 26) kd_160 (by omega) (by omega) dX12_backOf_25 rfl ?_
      rw [(hq).rd (k := 160) (i := g) (.inr rfl)]
      rw [hI.e160 (i := g) (by omega) (by omega)]
      refine w_goto (pc' := 30) dX12_backOf_26 rfl ?_
      refine v_ireturn rfl dX12_backOf_30 ?_
      first
        | (exfalso; omega)
        | exact ⟨congrArg gI (by unfold BACK; first | (rw [if_pos (by omega)]) | (rw [if_neg (by omega)])), rfl⟩
theorem q_toldOf {σ0 σ : gH} (hI : Inv σ0) (hq : QM σ0 σ) (g t : Int) (hg : 0 ≤ g ∧ g < σ0 41 11) : Mt mX12_toldOf 0 [gR 133, gI g, gI t] σ (rE (gI (TOLD σ0 g t)) σ) := by
  refine Mt.walk (ls := [gR 133, gI g, gI t]) pn_X12 rfl (fun _ _ h => by cases h.1) (Nat.le_of_ble_eq_true rfl) rfl ?_
  have hz := hI.f.hz
  have hrow := gift_row hI hg.1 hg.2
  refine w_aload_n (pc' := 1) (i := 0) (by rfl) (by rfl) dX12_toldOf_0 rfl ?_
  refine w_getS (pc' := 4) (q := 162) fg_X12_99 kd_133 sf_X12_36 gr_133_36 dX12_toldOf_1 rfl ?_
  refine w_iload_n (pc' := 5) (i := 1) (by rfl) (by rfl) dX12_toldOf_4 rfl ?_
  refine w_iald (pc' := 6) kd_162 (by omega) (by omega) dX12_toldOf_5 rfl ?_
  rw [(hq).rd (k := 162) (i := g) (.inr rfl)]
  rw [hI.e162 (i := g) (by omega) (by omega)]
  refine w_iconst (pc' := 7) (by decide) dX12_toldOf_6 rfl ?_
  refine w_icmp_eq (pc' := 10) (t := 29) dX12_toldOf_7 rfl rfl (fun c_7 => ?_) (fun c_7 => ?_)
  · skip
    refine w_iconst (pc' := 30) (by decide) dX12_toldOf_29 rfl ?_
    refine v_ireturn rfl dX12_toldOf_30 ?_
    first
      | (exfalso; omega)
      | exact ⟨congrArg gI (by unfold TOLD; first | (rw [if_pos (by omega)]) | (rw [if_neg (by omega)])), rfl⟩
  · skip
    refine w_aload_n (pc' := 11) (i := 0) (by rfl) (by rfl) dX12_toldOf_10 rfl ?_
    refine w_getS (pc' := 14) (q := 162) fg_X12_99 kd_133 sf_X12_36 gr_133_36 dX12_toldOf_11 rfl ?_
    refine w_iload_n (pc' := 15) (i := 1) (by rfl) (by rfl) dX12_toldOf_14 rfl ?_
    refine w_iald (pc' := 16) kd_162 (by omega) (by omega) dX12_toldOf_15 rfl ?_
    rw [(hq).rd (k := 162) (i := g) (.inr rfl)]
    rw [hI.e162 (i := g) (by omega) (by omega)]
    refine w_iload_n (pc' := 17) (i := 2) (by rfl) (by rfl) dX12_toldOf_16 rfl ?_
    refine w_icmp_gt (pc' := 20) (t := 29) dX12_toldOf_17 rfl rfl (fun c_17 => ?_) (fun c_17 => ?_)
    · skip
      refine w_iconst (pc' := 30) (by decide) dX12_toldOf_29 rfl ?_
      refine v_ireturn rfl dX12_toldOf_30 ?_
      first
        | (exfalso; omega)
        | exact ⟨congrArg gI (by unfold TOLD; first | (rw [if_pos (by omega)]) | (rw [if_neg (by omega)])), rfl⟩
    · skip
      refine w_aload_n (pc' := 21) (i := 0) (by rfl) (by rfl) dX12_toldOf_20 rfl ?_
      refine w_getS (pc' := 24) (q := 162) fg_X12_99 kd_133 sf_X12_36 gr_133_36 dX12_toldOf_21 rfl ?_
      refine w_iload_n (pc' := 25) (i := 1) (by rfl) (by rfl) dX12_toldOf_24 rfl ?_
      refine w_iald (pc' := 26) kd_162 (by omega) (by omega) dX12_toldOf_25 rfl ?_
      rw [(hq).rd (k := 162) (i := g) (.inr rfl)]
      rw [hI.e162 (i := g) (by omega) (by omega)]
      refine w_goto (pc' := 30) dX12_toldOf_26 rfl ?_
      refine v_ireturn rfl dX12_toldOf_30 ?_
      first
        | (exfalso; omega)
        | exact ⟨congrArg gI (by unfold TOLD; first | (rw [if_pos (by omega)]) | (rw [if_neg (by omega)])), rfl⟩
theorem q_leastOf {σ0 σ : gH} (hI : Inv σ0) (hq : QM σ0 σ) (g t : Int) (hg : 0 ≤ g ∧ g < σ0 41 11) : Mt mX12_leastOf 0 [gR 133, gI g, gI t] σ (rE (gI (LEAST σ0 g t)) σ) := by
  refine Mt.walk (ls := [gR 133, gI g, gI t, gX 1, gX 1]) pn_X12 rfl (fun _ _ h => by cases h.1) (Nat.le_of_ble_eq_true rfl) rfl ?_
  have hz := hI.f.hz
  have hrow := gift_row hI hg.1 hg.2
  refine w_aload_n (pc' := 1) (i := 0) (by rfl) (by rfl) dX12_leastOf_0 rfl ?_
  refine w_getS (pc' := 4) (q := 157) fg_X12_84 kd_133 sf_X12_31 gr_133_31 dX12_leastOf_1 rfl ?_
  refine w_iload_n (pc' := 5) (i := 1) (by rfl) (by rfl) dX12_leastOf_4 rfl ?_
  refine w_iald (pc' := 6) kd_157 (by omega) (by omega) dX12_leastOf_5 rfl ?_
  rw [(hq).rd (k := 157) (i := g) (.inr rfl)]
  rw [hI.e157 (i := g) (by omega) (by omega)]
  refine w_istore_n (pc' := 7) (i := 3) (ls' := [gR 133, gI g, gI t, gI (σ0 47 g), gX 1]) (by rfl) (by decide) (by rfl) dX12_leastOf_6 rfl ?_
  refine w_iconst (pc' := 8) (by decide) dX12_leastOf_7 rfl ?_
  refine w_istore (pc' := 10) (ls' := [gR 133, gI g, gI t, gI (σ0 47 g), gI 0]) (by decide) (by rfl) dX12_leastOf_8 rfl ?_
  have hl_10 : ∀ (mm : Nat) (k v : Int), (σ0 41 16 - k).toNat = mm → (0 ≤ k) → (k ≤ σ0 41 16) → (v = if 0 ≤ lastI (fun w => σ0 53 w = g ∧ σ0 56 w ≤ t) k.toNat then σ0 54 (lastI (fun w => σ0 53 w = g ∧ σ0 56 w ≤ t) k.toNat) else σ0 47 g) → Wp mX12_leastOf 0 (rE (gI (LEAST σ0 g t)) σ) σ 10 [gR 133, gI g, gI t, gI v, gI k] [] := by
    intro m_10
    induction m_10 using Nat.strongRecOn with
    | _ m_10 ih_10 =>
      intro k v hmeas_10 h0 h1 hv
      refine w_iload (pc' := 12) (by rfl) dX12_leastOf_10 rfl ?_
      refine w_aload_n (pc' := 13) (i := 0) (by rfl) (by rfl) dX12_leastOf_12 rfl ?_
      refine v_getI (pc' := 16) (ji := 43) rfl fg_X12_319 kd_133 dX12_leastOf_13 rfl ?_
      rw [(hq).rd (k := 133) (i := 43) (.inr rfl)]
      rw [hI.f43]
      refine w_icmp_ge (pc' := 19) (t := 55) dX12_leastOf_16 rfl rfl (fun c_16 => ?_) (fun c_16 => ?_)
      · skip
        refine w_iload_n (pc' := 56) (i := 3) (by rfl) (by rfl) dX12_leastOf_55 rfl ?_
        refine v_ireturn rfl dX12_leastOf_56 ?_
        have e : k = σ0 41 16 := by omega
        exact ⟨congrArg gI (by rw [hv, e]; rfl), rfl⟩
      · skip
        refine w_aload_n (pc' := 20) (i := 0) (by rfl) (by rfl) dX12_leastOf_19 rfl ?_
        refine w_getS (pc' := 23) (q := 164) fg_X12_106 kd_133 sf_X12_38 gr_133_38 dX12_leastOf_20 rfl ?_
        refine w_iload (pc' := 25) (by rfl) dX12_leastOf_23 rfl ?_
        refine w_iald (pc' := 26) kd_164 (by omega) (by omega) dX12_leastOf_25 rfl ?_
        rw [(hq).rd (k := 164) (i := k) (.inr rfl)]
        rw [hI.e164 (i := k) (by omega) (by omega)]
        refine w_iload_n (pc' := 27) (i := 1) (by rfl) (by rfl) dX12_leastOf_26 rfl ?_
        refine w_icmp_ne (pc' := 30) (t := 49) dX12_leastOf_27 rfl rfl (fun c_27 => ?_) (fun c_27 => ?_)
        · skip
          refine v_iinc (pc' := 52) (x := k) (ls' := [gR 133, gI g, gI t, gI v, gI (k + 1)]) (by omega) (by decide) (by rfl) (by rfl) dX12_leastOf_49 rfl ?_
          refine w_goto (pc' := 10) dX12_leastOf_52 rfl ?_
          exact ih_10 _ (by omega) (k + 1) v rfl (by omega) (by omega) (by first | (rw [lastI_miss (P := (fun w => σ0 53 w = g ∧ σ0 56 w ≤ t)) h0 (by omega)]; exact hv) | (rw [lastI_hit (P := (fun w => σ0 53 w = g ∧ σ0 56 w ≤ t)) h0 (by omega), if_pos h0]))
        · skip
          refine w_aload_n (pc' := 31) (i := 0) (by rfl) (by rfl) dX12_leastOf_30 rfl ?_
          refine w_getS (pc' := 34) (q := 167) fg_X12_115 kd_133 sf_X12_41 gr_133_41 dX12_leastOf_31 rfl ?_
          refine w_iload (pc' := 36) (by rfl) dX12_leastOf_34 rfl ?_
          refine w_iald (pc' := 37) kd_167 (by omega) (by omega) dX12_leastOf_36 rfl ?_
          rw [(hq).rd (k := 167) (i := k) (.inr rfl)]
          rw [hI.e167 (i := k) (by omega) (by omega)]
          refine w_iload_n (pc' := 38) (i := 2) (by rfl) (by rfl) dX12_leastOf_37 rfl ?_
          refine w_icmp_gt (pc' := 41) (t := 49) dX12_leastOf_38 rfl rfl (fun c_38 => ?_) (fun c_38 => ?_)
          · skip
            refine v_iinc (pc' := 52) (x := k) (ls' := [gR 133, gI g, gI t, gI v, gI (k + 1)]) (by omega) (by decide) (by rfl) (by rfl) dX12_leastOf_49 rfl ?_
            refine w_goto (pc' := 10) dX12_leastOf_52 rfl ?_
            exact ih_10 _ (by omega) (k + 1) v rfl (by omega) (by omega) (by first | (rw [lastI_miss (P := (fun w => σ0 53 w = g ∧ σ0 56 w ≤ t)) h0 (by omega)]; exact hv) | (rw [lastI_hit (P := (fun w => σ0 53 w = g ∧ σ0 56 w ≤ t)) h0 (by omega), if_pos h0]))
          · skip
            refine w_aload_n (pc' := 42) (i := 0) (by rfl) (by rfl) dX12_leastOf_41 rfl ?_
            refine w_getS (pc' := 45) (q := 165) fg_X12_109 kd_133 sf_X12_39 gr_133_39 dX12_leastOf_42 rfl ?_
            refine w_iload (pc' := 47) (by rfl) dX12_leastOf_45 rfl ?_
            refine w_iald (pc' := 48) kd_165 (by omega) (by omega) dX12_leastOf_47 rfl ?_
            rw [(hq).rd (k := 165) (i := k) (.inr rfl)]
            rw [hI.e165 (i := k) (by omega) (by omega)]
            refine w_istore_n (pc' := 49) (i := 3) (ls' := [gR 133, gI g, gI t, gI (σ0 54 k), gI k]) (by rfl) (by decide) (by rfl) dX12_leastOf_48 rfl ?_
            refine v_iinc (pc' := 52) (x := k) (ls' := [gR 133, gI g, gI t, gI (σ0 54 k), gI (k + 1)]) (by omega) (by decide) (by rfl) (by rfl) dX12_leastOf_49 rfl ?_
            refine w_goto (pc' := 10) dX12_leastOf_52 rfl ?_
            exact ih_10 _ (by omega) (k + 1) (σ0 54 k) rfl (by omega) (by omega) (by first | (rw [lastI_miss (P := (fun w => σ0 53 w = g ∧ σ0 56 w ≤ t)) h0 (by omega)]; exact hv) | (rw [lastI_hit (P := (fun w => σ0 53 w = g ∧ σ0 56 w ≤ t)) h0 (by omega), if_pos h0]))
  exact hl_10 _ 0 (σ0 47 g) rfl (by omega) (by omega) (by rfl)
theorem q_mostOf {σ0 σ : gH} (hI : Inv σ0) (hq : QM σ0 σ) (g t : Int) (hg : 0 ≤ g ∧ g < σ0 41 11) : Mt mX12_mostOf 0 [gR 133, gI g, gI t] σ (rE (gI (MOST σ0 g t)) σ) := by
  refine Mt.walk (ls := [gR 133, gI g, gI t, gX 1, gX 1]) pn_X12 rfl (fun _ _ h => by cases h.1) (Nat.le_of_ble_eq_true rfl) rfl ?_
  have hz := hI.f.hz
  have hrow := gift_row hI hg.1 hg.2
  refine w_aload_n (pc' := 1) (i := 0) (by rfl) (by rfl) dX12_mostOf_0 rfl ?_
  refine w_getS (pc' := 4) (q := 158) fg_X12_87 kd_133 sf_X12_32 gr_133_32 dX12_mostOf_1 rfl ?_
  refine w_iload_n (pc' := 5) (i := 1) (by rfl) (by rfl) dX12_mostOf_4 rfl ?_
  refine w_iald (pc' := 6) kd_158 (by omega) (by omega) dX12_mostOf_5 rfl ?_
  rw [(hq).rd (k := 158) (i := g) (.inr rfl)]
  rw [hI.e158 (i := g) (by omega) (by omega)]
  refine w_istore_n (pc' := 7) (i := 3) (ls' := [gR 133, gI g, gI t, gI (σ0 48 g), gX 1]) (by rfl) (by decide) (by rfl) dX12_mostOf_6 rfl ?_
  refine w_iconst (pc' := 8) (by decide) dX12_mostOf_7 rfl ?_
  refine w_istore (pc' := 10) (ls' := [gR 133, gI g, gI t, gI (σ0 48 g), gI 0]) (by decide) (by rfl) dX12_mostOf_8 rfl ?_
  have hl_10 : ∀ (mm : Nat) (k v : Int), (σ0 41 16 - k).toNat = mm → (0 ≤ k) → (k ≤ σ0 41 16) → (v = if 0 ≤ lastI (fun w => σ0 53 w = g ∧ σ0 56 w ≤ t) k.toNat then σ0 55 (lastI (fun w => σ0 53 w = g ∧ σ0 56 w ≤ t) k.toNat) else σ0 48 g) → Wp mX12_mostOf 0 (rE (gI (MOST σ0 g t)) σ) σ 10 [gR 133, gI g, gI t, gI v, gI k] [] := by
    intro m_10
    induction m_10 using Nat.strongRecOn with
    | _ m_10 ih_10 =>
      intro k v hmeas_10 h0 h1 hv
      refine w_iload (pc' := 12) (by rfl) dX12_mostOf_10 rfl ?_
      refine w_aload_n (pc' := 13) (i := 0) (by rfl) (by rfl) dX12_mostOf_12 rfl ?_
      refine v_getI (pc' := 16) (ji := 43) rfl fg_X12_319 kd_133 dX12_mostOf_13 rfl ?_
      rw [(hq).rd (k := 133) (i := 43) (.inr rfl)]
      rw [hI.f43]
      refine w_icmp_ge (pc' := 19) (t := 55) dX12_mostOf_16 rfl rfl (fun c_16 => ?_) (fun c_16 => ?_)
      · skip
        refine w_iload_n (pc' := 56) (i := 3) (by rfl) (by rfl) dX12_mostOf_55 rfl ?_
        refine v_ireturn rfl dX12_mostOf_56 ?_
        have e : k = σ0 41 16 := by omega
        exact ⟨congrArg gI (by rw [hv, e]; rfl), rfl⟩
      · skip
        refine w_aload_n (pc' := 20) (i := 0) (by rfl) (by rfl) dX12_mostOf_19 rfl ?_
        refine w_getS (pc' := 23) (q := 164) fg_X12_106 kd_133 sf_X12_38 gr_133_38 dX12_mostOf_20 rfl ?_
        refine w_iload (pc' := 25) (by rfl) dX12_mostOf_23 rfl ?_
        refine w_iald (pc' := 26) kd_164 (by omega) (by omega) dX12_mostOf_25 rfl ?_
        rw [(hq).rd (k := 164) (i := k) (.inr rfl)]
        rw [hI.e164 (i := k) (by omega) (by omega)]
        refine w_iload_n (pc' := 27) (i := 1) (by rfl) (by rfl) dX12_mostOf_26 rfl ?_
        refine w_icmp_ne (pc' := 30) (t := 49) dX12_mostOf_27 rfl rfl (fun c_27 => ?_) (fun c_27 => ?_)
        · skip
          refine v_iinc (pc' := 52) (x := k) (ls' := [gR 133, gI g, gI t, gI v, gI (k + 1)]) (by omega) (by decide) (by rfl) (by rfl) dX12_mostOf_49 rfl ?_
          refine w_goto (pc' := 10) dX12_mostOf_52 rfl ?_
          exact ih_10 _ (by omega) (k + 1) v rfl (by omega) (by omega) (by first | (rw [lastI_miss (P := (fun w => σ0 53 w = g ∧ σ0 56 w ≤ t)) h0 (by omega)]; exact hv) | (rw [lastI_hit (P := (fun w => σ0 53 w = g ∧ σ0 56 w ≤ t)) h0 (by omega), if_pos h0]))
        · skip
          refine w_aload_n (pc' := 31) (i := 0) (by rfl) (by rfl) dX12_mostOf_30 rfl ?_
          refine w_getS (pc' := 34) (q := 167) fg_X12_115 kd_133 sf_X12_41 gr_133_41 dX12_mostOf_31 rfl ?_
          refine w_iload (pc' := 36) (by rfl) dX12_mostOf_34 rfl ?_
          refine w_iald (pc' := 37) kd_167 (by omega) (by omega) dX12_mostOf_36 rfl ?_
          rw [(hq).rd (k := 167) (i := k) (.inr rfl)]
          rw [hI.e167 (i := k) (by omega) (by omega)]
          refine w_iload_n (pc' := 38) (i := 2) (by rfl) (by rfl) dX12_mostOf_37 rfl ?_
          refine w_icmp_gt (pc' := 41) (t := 49) dX12_mostOf_38 rfl rfl (fun c_38 => ?_) (fun c_38 => ?_)
          · skip
            refine v_iinc (pc' := 52) (x := k) (ls' := [gR 133, gI g, gI t, gI v, gI (k + 1)]) (by omega) (by decide) (by rfl) (by rfl) dX12_mostOf_49 rfl ?_
            refine w_goto (pc' := 10) dX12_mostOf_52 rfl ?_
            exact ih_10 _ (by omega) (k + 1) v rfl (by omega) (by omega) (by first | (rw [lastI_miss (P := (fun w => σ0 53 w = g ∧ σ0 56 w ≤ t)) h0 (by omega)]; exact hv) | (rw [lastI_hit (P := (fun w => σ0 53 w = g ∧ σ0 56 w ≤ t)) h0 (by omega), if_pos h0]))
          · skip
            refine w_aload_n (pc' := 42) (i := 0) (by rfl) (by rfl) dX12_mostOf_41 rfl ?_
            refine w_getS (pc' := 45) (q := 166) fg_X12_112 kd_133 sf_X12_40 gr_133_40 dX12_mostOf_42 rfl ?_
            refine w_iload (pc' := 47) (by rfl) dX12_mostOf_45 rfl ?_
            refine w_iald (pc' := 48) kd_166 (by omega) (by omega) dX12_mostOf_47 rfl ?_
            rw [(hq).rd (k := 166) (i := k) (.inr rfl)]
            rw [hI.e166 (i := k) (by omega) (by omega)]
            refine w_istore_n (pc' := 49) (i := 3) (ls' := [gR 133, gI g, gI t, gI (σ0 55 k), gI k]) (by rfl) (by decide) (by rfl) dX12_mostOf_48 rfl ?_
            refine v_iinc (pc' := 52) (x := k) (ls' := [gR 133, gI g, gI t, gI (σ0 55 k), gI (k + 1)]) (by omega) (by decide) (by rfl) (by rfl) dX12_mostOf_49 rfl ?_
            refine w_goto (pc' := 10) dX12_mostOf_52 rfl ?_
            exact ih_10 _ (by omega) (k + 1) (σ0 55 k) rfl (by omega) (by omega) (by first | (rw [lastI_miss (P := (fun w => σ0 53 w = g ∧ σ0 56 w ≤ t)) h0 (by omega)]; exact hv) | (rw [lastI_hit (P := (fun w => σ0 53 w = g ∧ σ0 56 w ≤ t)) h0 (by omega), if_pos h0]))
  exact hl_10 _ 0 (σ0 48 g) rfl (by omega) (by omega) (by rfl)
/-- whether a gift counts for what the group of z gave to p and those near, up to day d -/
abbrev wP (σ : gH) (p z d t y k j : Int) : Prop := σ 49 j ≤ t ∧ σ 45 j ≤ d ∧ d - y < σ 45 j ∧ DG σ p d t (σ 43 j) ≤ k ∧ HD (AR σ d t) (σ 42 j) = HD (AR σ d t) z ∧ ¬ (BACK σ j t ≠ -1 ∧ BACK σ j t ≤ d)
noncomputable def wS (σ : gH) (p z d t y k : Int) (n : Nat) : Int := sumI (fun j => if wP σ p z d t y k j then LEAST σ j t else 0) n
noncomputable def wC (σ : gH) (p z d t y k : Int) (n : Nat) : Int := sumI (fun j => if wP σ p z d t y k j then 1 else 0) n
noncomputable def SUMV (σ : gH) (p z d t l : Int) : Int := wS σ p z d t (NU σ l 1) (NU σ l 0) (σ 41 11).toNat
noncomputable def CNTV (σ : gH) (p z d t l : Int) : Int := wC σ p z d t (NU σ l 1) (NU σ l 0) (σ 41 11).toNat
theorem wS_t {σ : gH} {p z d t y k j : Int} (h0 : 0 ≤ j) (h : wP σ p z d t y k j) : wS σ p z d t y k (j + 1).toNat = wS σ p z d t y k j.toNat + LEAST σ j t ∧ wC σ p z d t y k (j + 1).toNat = wC σ p z d t y k j.toNat + 1 := by
  unfold wS wC
  rw [sumI_s h0, sumI_s h0, if_pos h, if_pos h]
  exact ⟨rfl, rfl⟩
theorem wS_f {σ : gH} {p z d t y k j : Int} (h0 : 0 ≤ j) (h : ¬ wP σ p z d t y k j) : wS σ p z d t y k (j + 1).toNat = wS σ p z d t y k j.toNat ∧ wC σ p z d t y k (j + 1).toNat = wC σ p z d t y k j.toNat := by
  unfold wS wC
  rw [sumI_s h0, sumI_s h0, if_neg h, if_neg h]
  omega
theorem wS_in {σ : gH} (hI : Inv σ) {p z d t y k j : Int} (h0 : 0 ≤ j) (h1 : j ≤ σ 41 11) : 0 ≤ wS σ p z d t y k j.toNat ∧ wS σ p z d t y k j.toNat ≤ 1000000 * j ∧ 0 ≤ wC σ p z d t y k j.toNat ∧ wC σ p z d t y k j.toNat ≤ j := by
  have hz := hI.f.hz
  have a1 : 0 ≤ wS σ p z d t y k j.toNat := sumI_nonneg fun i a b => by
    have := LEAST_in hI (t := t) a (g := i) (by omega)
    split <;> omega
  have a2 : wS σ p z d t y k j.toNat ≤ sumI (fun _ => 1000000) j.toNat := sumI_le fun i a b => by
    have := LEAST_in hI (t := t) a (g := i) (by omega)
    split <;> omega
  have a3 : 0 ≤ wC σ p z d t y k j.toNat := sumI_nonneg fun i a b => by
    split <;> omega
  have a4 : wC σ p z d t y k j.toNat ≤ sumI (fun _ => 1) j.toNat := sumI_le fun i a b => by
    split <;> omega
  rw [sumI_const] at a2 a4
  omega
set_option maxHeartbeats 4000000 in
theorem k_weigh {σ0 σ : gH} (hI : Inv σ0) (hq : QC σ0 σ) {c : Nat} {l : Int} (hL : LWR σ0 c l) (p z d t : Int) (hP : 0 ≤ p ∧ p < σ0 3 2) (hZ : 0 ≤ z ∧ z < σ0 3 2) (hD : 0 ≤ d ∧ d ≤ 9999) : Mt mX3_weigh 4 [gR 110, gI p, gI z, gI d, gI t, gR c] σ (fun v σ' => v = gX 1 ∧ ∃ σ1, QC σ0 σ1 ∧ Kp 34 σ σ1 ∧ σ' = gUp (gUp σ1 111 9 (SUMV σ0 p z d t l)) 111 10 (CNTV σ0 p z d t l)) := by
  refine Mt.walk (ls := [gR 110, gI p, gI z, gI d, gI t, gR c, gX 1, gX 1, gX 1, gX 1, gX 1]) pn_X3 rfl (fun _ _ h => by cases h.1) (Nat.le_of_ble_eq_true rfl) rfl ?_
  have hz0 := hI.f.hz
  have hp60 := hI.f.hp
  have hnum := hL.num
  refine w_aload_n (pc' := 1) (i := 0) (by rfl) (by rfl) dX3_weigh_0 rfl ?_
  refine w_getS (pc' := 4) (q := 14) fg_X3_19 kd_110 sf_X3_1 gr_110_1 dX3_weigh_1 rfl ?_
  refine w_iload_n (pc' := 5) (i := 2) (by rfl) (by rfl) dX3_weigh_4 rfl ?_
  refine w_iload_n (pc' := 6) (i := 3) (by rfl) (by rfl) dX3_weigh_5 rfl ?_
  refine w_iload (pc' := 8) (by rfl) dX3_weigh_6 rfl ?_
  refine w_callV (pc' := 11) (d' := 3) (av := [gI z, gI d, gI t]) mi_mX7_headOf lk_X3_134 rfl ci_X7 kd_14 rfl (Nat.le_of_ble_eq_true rfl) (Nat.le_of_ble_eq_true rfl) dX3_weigh_8 rfl (k_headOf hI hq z d t (by (first | omega | (have := hrow (by omega); omega)))) (fun v_8 σ8 q_8 => ?_)
  obtain ⟨rfl, hq_8, hk_8⟩ := q_8
  show Wp _ _ _ _ _ _ [gI (HD (AR σ0 d t) z)]
  refine w_istore (pc' := 13) (ls' := [gR 110, gI p, gI z, gI d, gI t, gR c, gI (HD (AR σ0 d t) z), gX 1, gX 1, gX 1, gX 1]) (by decide) (by rfl) dX3_weigh_11 rfl ?_
  refine w_iconst (pc' := 14) (by decide) dX3_weigh_13 rfl ?_
  refine w_istore (pc' := 16) (ls' := [gR 110, gI p, gI z, gI d, gI t, gR c, gI (HD (AR σ0 d t) z), gI 0, gX 1, gX 1, gX 1]) (by decide) (by rfl) dX3_weigh_14 rfl ?_
  refine w_iconst (pc' := 17) (by decide) dX3_weigh_16 rfl ?_
  refine w_istore (pc' := 19) (ls' := [gR 110, gI p, gI z, gI d, gI t, gR c, gI (HD (AR σ0 d t) z), gI 0, gI 0, gX 1, gX 1]) (by decide) (by rfl) dX3_weigh_17 rfl ?_
  refine w_iconst (pc' := 20) (by decide) dX3_weigh_19 rfl ?_
  refine w_istore (pc' := 22) (ls' := [gR 110, gI p, gI z, gI d, gI t, gR c, gI (HD (AR σ0 d t) z), gI 0, gI 0, gI 0, gX 1]) (by decide) (by rfl) dX3_weigh_20 rfl ?_
  have hl_22 : ∀ (mm : Nat) (j s n : Int) (σv : gH), (σ0 41 11 - j).toNat = mm → (0 ≤ j) → (j ≤ σ0 41 11) → (s = wS σ0 p z d t (NU σ0 l 1) (NU σ0 l 0) (j).toNat) → (n = wC σ0 p z d t (NU σ0 l 1) (NU σ0 l 0) (j).toNat) → (QC σ0 σv) → (Kp 34 σ σv) → Wp mX3_weigh 4 (fun v σ' => v = gX 1 ∧ ∃ σ1, QC σ0 σ1 ∧ Kp 34 σ σ1 ∧ σ' = gUp (gUp σ1 111 9 (SUMV σ0 p z d t l)) 111 10 (CNTV σ0 p z d t l)) σv 22 [gR 110, gI p, gI z, gI d, gI t, gR c, gI (HD (AR σ0 d t) z), gI s, gI n, gI j, gX 1] [] := by
    intro m_22
    induction m_22 using Nat.strongRecOn with
    | _ m_22 ih_22 =>
      intro j s n σv hmeas_22 h0 h1 hs hn hqv hkv
      have hrow := fun h : j < σ0 41 11 => gift_row hI h0 h
      have hle := fun h : j < σ0 41 11 => LEAST_in hI (t := t) h0 h
      have hwi := wS_in hI (p := p) (z := z) (d := d) (t := t) (y := NU σ0 l 1) (k := NU σ0 l 0) h0 h1
      refine w_iload (pc' := 24) (by rfl) dX3_weigh_22 rfl ?_
      refine w_aload_n (pc' := 25) (i := 0) (by rfl) (by rfl) dX3_weigh_24 rfl ?_
      refine w_getS (pc' := 28) (q := 41) fg_X3_31 kd_110 sf_X3_4 gr_110_4 dX3_weigh_25 rfl ?_
      refine v_callVE (pc' := 31) (st' := [gI (σ0 41 11), gI j]) (d' := 0) (av := []) mi_mX2_total lk_X3_54 rfl ci_X2 kd_41 rfl (Nat.le_of_ble_eq_true rfl) (Nat.le_of_ble_eq_true rfl) dX3_weigh_28 rfl rfl (hmP (F := fun z => gI (z 41 11)) (hqv.1) (fun _ => rfl) (g_total σv (hm_FA (hqv.1) hI.1).1.hz)) ?_
      refine w_icmp_ge (pc' := 34) (t := 169) dX3_weigh_31 rfl rfl (fun c_31 => ?_) (fun c_31 => ?_)
      · skip
        refine w_aload_n (pc' := 170) (i := 0) (by rfl) (by rfl) dX3_weigh_169 rfl ?_
        refine w_getS (pc' := 173) (q := 111) fg_X3_9 kd_110 sf_X3_6 gr_110_6 dX3_weigh_170 rfl ?_
        refine w_bipush (pc' := 175) (by decide) (by decide) dX3_weigh_173 rfl ?_
        refine w_iload (pc' := 177) (by rfl) dX3_weigh_175 rfl ?_
        refine w_iast (pc' := 178) kd_111 (by (first | omega | (have := hrow (by omega); omega))) (by (first | omega | (have := hrow (by omega); omega))) dX3_weigh_177 rfl ?_
        refine w_aload_n (pc' := 179) (i := 0) (by rfl) (by rfl) dX3_weigh_178 rfl ?_
        refine w_getS (pc' := 182) (q := 111) fg_X3_9 kd_110 sf_X3_6 gr_110_6 dX3_weigh_179 rfl ?_
        refine w_bipush (pc' := 184) (by decide) (by decide) dX3_weigh_182 rfl ?_
        refine w_iload (pc' := 186) (by rfl) dX3_weigh_184 rfl ?_
        refine w_iast (pc' := 187) kd_111 (by (first | omega | (have := hrow (by omega); omega))) (by (first | omega | (have := hrow (by omega); omega))) dX3_weigh_186 rfl ?_
        refine w_return rfl dX3_weigh_187 ?_
        have e : j = σ0 41 11 := by omega
        rw [e] at hs hn
        exact ⟨rfl, σv, hqv, hkv, by rw [hs, hn]; rfl⟩
      · skip
        refine w_aload_n (pc' := 35) (i := 0) (by rfl) (by rfl) dX3_weigh_34 rfl ?_
        refine w_getS (pc' := 38) (q := 41) fg_X3_31 kd_110 sf_X3_4 gr_110_4 dX3_weigh_35 rfl ?_
        refine w_iload (pc' := 40) (by rfl) dX3_weigh_38 rfl ?_
        refine v_callVE (pc' := 43) (st' := [gI (σ0 45 j)]) (d' := 1) (av := [gI j]) mi_mX2_dayOf lk_X3_74 rfl ci_X2 kd_41 rfl (Nat.le_of_ble_eq_true rfl) (Nat.le_of_ble_eq_true rfl) dX3_weigh_40 rfl rfl (hmP (F := fun z => gI (z 45 j)) (hqv.1) (fun _ => rfl) (gi_dayOf σv (hm_FA (hqv.1) hI.1).1.hz j (gr_n (hqv.1) ⟨by omega, by omega⟩))) ?_
        refine w_istore (pc' := 45) (ls' := [gR 110, gI p, gI z, gI d, gI t, gR c, gI (HD (AR σ0 d t) z), gI s, gI n, gI j, gI (σ0 45 j)]) (by decide) (by rfl) dX3_weigh_43 rfl ?_
        refine w_aload_n (pc' := 46) (i := 0) (by rfl) (by rfl) dX3_weigh_45 rfl ?_
        refine w_getS (pc' := 49) (q := 41) fg_X3_31 kd_110 sf_X3_4 gr_110_4 dX3_weigh_46 rfl ?_
        refine w_iload (pc' := 51) (by rfl) dX3_weigh_49 rfl ?_
        refine w_iload (pc' := 53) (by rfl) dX3_weigh_51 rfl ?_
        refine v_callVE (pc' := 56) (st' := [gI (gb ((0 ≤ j ∧ j < σ0 41 11) ∧ σ0 49 j ≤ t))]) (d' := 1) (av := [gI j, gI t]) mi_mX2_isKnown lk_X3_60 rfl ci_X2 kd_41 rfl (Nat.le_of_ble_eq_true rfl) (Nat.le_of_ble_eq_true rfl) dX3_weigh_53 rfl rfl (hmP (F := fun z => gI (gb ((0 ≤ j ∧ j < z 41 11) ∧ z 49 j ≤ t))) (hqv.1) (fun _ => rfl) (g_isKnown σv (hm_FA (hqv.1) hI.1).1.hz j t)) ?_
        refine v_if_eqB (pc' := 59) (t := 163) dX3_weigh_56 rfl rfl (fun c_56 => ?_) (fun c_56 => ?_)
        · skip
          refine v_iinc (pc' := 166) (x := j) (ls' := [gR 110, gI p, gI z, gI d, gI t, gR c, gI (HD (AR σ0 d t) z), gI s, gI n, gI (j + 1), gI (σ0 45 j)]) (by (first | omega | (have := hrow (by omega); omega))) (by decide) (by rfl) (by rfl) dX3_weigh_163 rfl ?_
          refine w_goto (pc' := 22) dX3_weigh_166 rfl ?_
          refine Wp.lose (ls' := [gR 110, gI p, gI z, gI d, gI t, gR c, gI (HD (AR σ0 d t) z), gI s, gI n, gI (j + 1), gX 1]) ⟨.inr rfl, ⟨.inr rfl, ⟨.inr rfl, ⟨.inr rfl, ⟨.inr rfl, ⟨.inr rfl, ⟨.inr rfl, ⟨.inr rfl, ⟨.inr rfl, ⟨.inr rfl, ⟨.inl rfl, trivial⟩⟩⟩⟩⟩⟩⟩⟩⟩⟩⟩ ?_
          exact ih_22 _ (by omega) (j + 1) s n σv rfl (by omega) (by omega) (by first | (rw [(wS_f h0 (show ¬ _ by omega)).1]; exact hs) | (rw [(wS_t h0 (show _ ∧ _ ∧ _ ∧ _ ∧ _ ∧ _ by omega)).1, hs])) (by first | (rw [(wS_f h0 (show ¬ _ by omega)).2]; exact hn) | (rw [(wS_t h0 (show _ ∧ _ ∧ _ ∧ _ ∧ _ ∧ _ by omega)).2, hn])) (by first | exact hqv | exact hq_121 | exact hq_94) (by first | exact hkv | exact (hkv.trans hk_94).trans hk_121 | exact hkv.trans hk_94)
        · skip
          refine w_iload (pc' := 61) (by rfl) dX3_weigh_59 rfl ?_
          refine w_iload_n (pc' := 62) (i := 3) (by rfl) (by rfl) dX3_weigh_61 rfl ?_
          refine w_icmp_gt (pc' := 65) (t := 163) dX3_weigh_62 rfl rfl (fun c_62 => ?_) (fun c_62 => ?_)
          · skip
            refine v_iinc (pc' := 166) (x := j) (ls' := [gR 110, gI p, gI z, gI d, gI t, gR c, gI (HD (AR σ0 d t) z), gI s, gI n, gI (j + 1), gI (σ0 45 j)]) (by (first | omega | (have := hrow (by omega); omega))) (by decide) (by rfl) (by rfl) dX3_weigh_163 rfl ?_
            refine w_goto (pc' := 22) dX3_weigh_166 rfl ?_
            refine Wp.lose (ls' := [gR 110, gI p, gI z, gI d, gI t, gR c, gI (HD (AR σ0 d t) z), gI s, gI n, gI (j + 1), gX 1]) ⟨.inr rfl, ⟨.inr rfl, ⟨.inr rfl, ⟨.inr rfl, ⟨.inr rfl, ⟨.inr rfl, ⟨.inr rfl, ⟨.inr rfl, ⟨.inr rfl, ⟨.inr rfl, ⟨.inl rfl, trivial⟩⟩⟩⟩⟩⟩⟩⟩⟩⟩⟩ ?_
            exact ih_22 _ (by omega) (j + 1) s n σv rfl (by omega) (by omega) (by first | (rw [(wS_f h0 (show ¬ _ by omega)).1]; exact hs) | (rw [(wS_t h0 (show _ ∧ _ ∧ _ ∧ _ ∧ _ ∧ _ by omega)).1, hs])) (by first | (rw [(wS_f h0 (show ¬ _ by omega)).2]; exact hn) | (rw [(wS_t h0 (show _ ∧ _ ∧ _ ∧ _ ∧ _ ∧ _ by omega)).2, hn])) (by first | exact hqv | exact hq_121 | exact hq_94) (by first | exact hkv | exact (hkv.trans hk_94).trans hk_121 | exact hkv.trans hk_94)
          · skip
            refine w_iload (pc' := 67) (by rfl) dX3_weigh_65 rfl ?_
            refine w_iload_n (pc' := 68) (i := 3) (by rfl) (by rfl) dX3_weigh_67 rfl ?_
            refine w_aload (pc' := 70) (by rfl) dX3_weigh_68 rfl ?_
            refine v_callVE (pc' := 73) (st' := [gI (NU σ0 l 1), gI d, gI (σ0 45 j)]) (d' := 0) (av := []) mi_mX4_year lk_X3_140 rfl ci_X4 hL.is.1.1 rfl (Nat.le_of_ble_eq_true rfl) (Nat.le_of_ble_eq_true rfl) dX3_weigh_70 rfl rfl (k_yearL hL (hqv.1)) ?_
            refine v_isub (pc' := 74) (by omega) dX3_weigh_73 rfl ?_
            refine w_icmp_le (pc' := 77) (t := 163) dX3_weigh_74 rfl rfl (fun c_74 => ?_) (fun c_74 => ?_)
            · skip
              refine v_iinc (pc' := 166) (x := j) (ls' := [gR 110, gI p, gI z, gI d, gI t, gR c, gI (HD (AR σ0 d t) z), gI s, gI n, gI (j + 1), gI (σ0 45 j)]) (by (first | omega | (have := hrow (by omega); omega))) (by decide) (by rfl) (by rfl) dX3_weigh_163 rfl ?_
              refine w_goto (pc' := 22) dX3_weigh_166 rfl ?_
              refine Wp.lose (ls' := [gR 110, gI p, gI z, gI d, gI t, gR c, gI (HD (AR σ0 d t) z), gI s, gI n, gI (j + 1), gX 1]) ⟨.inr rfl, ⟨.inr rfl, ⟨.inr rfl, ⟨.inr rfl, ⟨.inr rfl, ⟨.inr rfl, ⟨.inr rfl, ⟨.inr rfl, ⟨.inr rfl, ⟨.inr rfl, ⟨.inl rfl, trivial⟩⟩⟩⟩⟩⟩⟩⟩⟩⟩⟩ ?_
              exact ih_22 _ (by omega) (j + 1) s n σv rfl (by omega) (by omega) (by first | (rw [(wS_f h0 (show ¬ _ by omega)).1]; exact hs) | (rw [(wS_t h0 (show _ ∧ _ ∧ _ ∧ _ ∧ _ ∧ _ by omega)).1, hs])) (by first | (rw [(wS_f h0 (show ¬ _ by omega)).2]; exact hn) | (rw [(wS_t h0 (show _ ∧ _ ∧ _ ∧ _ ∧ _ ∧ _ by omega)).2, hn])) (by first | exact hqv | exact hq_121 | exact hq_94) (by first | exact hkv | exact (hkv.trans hk_94).trans hk_121 | exact hkv.trans hk_94)
            · skip
              refine w_aload_n (pc' := 78) (i := 0) (by rfl) (by rfl) dX3_weigh_77 rfl ?_
              refine w_getS (pc' := 81) (q := 3) fg_X3_15 kd_110 sf_X3_0 gr_110_0 dX3_weigh_78 rfl ?_
              refine w_iload_n (pc' := 82) (i := 1) (by rfl) (by rfl) dX3_weigh_81 rfl ?_
              refine w_aload_n (pc' := 83) (i := 0) (by rfl) (by rfl) dX3_weigh_82 rfl ?_
              refine w_getS (pc' := 86) (q := 41) fg_X3_31 kd_110 sf_X3_4 gr_110_4 dX3_weigh_83 rfl ?_
              refine w_iload (pc' := 88) (by rfl) dX3_weigh_86 rfl ?_
              refine v_callVE (pc' := 91) (st' := [gI (σ0 43 j), gI p, gR 3]) (d' := 1) (av := [gI j]) mi_mX2_receiver lk_X3_64 rfl ci_X2 kd_41 rfl (Nat.le_of_ble_eq_true rfl) (Nat.le_of_ble_eq_true rfl) dX3_weigh_88 rfl rfl (hmP (F := fun z => gI (z 43 j)) (hqv.1) (fun _ => rfl) (gi_receiver σv (hm_FA (hqv.1) hI.1).1.hz j (gr_n (hqv.1) ⟨by omega, by omega⟩))) ?_
              refine w_iload_n (pc' := 92) (i := 3) (by rfl) (by rfl) dX3_weigh_91 rfl ?_
              refine w_iload (pc' := 94) (by rfl) dX3_weigh_92 rfl ?_
              refine w_callV (pc' := 97) (d' := 2) (av := [gI p, gI (σ0 43 j), gI d, gI t]) mi_mX8_degreeOf lk_X3_108 rfl ci_X8 kd_3 rfl (Nat.le_of_ble_eq_true rfl) (Nat.le_of_ble_eq_true rfl) dX3_weigh_94 rfl (k_degreeOf hI hqv p (σ0 43 j) d t (by (first | omega | (have := hrow (by omega); omega))) (by (first | omega | (have := hrow (by omega); omega)))) (fun v_94 σ94 q_94 => ?_)
              obtain ⟨rfl, hq_94, hk_94⟩ := q_94
              show Wp _ _ _ _ _ _ [gI (DG σ0 p d t (σ0 43 j))]
              refine w_aload (pc' := 99) (by rfl) dX3_weigh_97 rfl ?_
              refine v_callVE (pc' := 102) (st' := [gI (NU σ0 l 0), gI (DG σ0 p d t (σ0 43 j))]) (d' := 0) (av := []) mi_mX4_kinLimit lk_X3_112 rfl ci_X4 hL.is.1.1 rfl (Nat.le_of_ble_eq_true rfl) (Nat.le_of_ble_eq_true rfl) dX3_weigh_99 rfl rfl (k_kinL hL (hq_94.1)) ?_
              refine w_icmp_gt (pc' := 105) (t := 163) dX3_weigh_102 rfl rfl (fun c_102 => ?_) (fun c_102 => ?_)
              · skip
                refine v_iinc (pc' := 166) (x := j) (ls' := [gR 110, gI p, gI z, gI d, gI t, gR c, gI (HD (AR σ0 d t) z), gI s, gI n, gI (j + 1), gI (σ0 45 j)]) (by (first | omega | (have := hrow (by omega); omega))) (by decide) (by rfl) (by rfl) dX3_weigh_163 rfl ?_
                refine w_goto (pc' := 22) dX3_weigh_166 rfl ?_
                refine Wp.lose (ls' := [gR 110, gI p, gI z, gI d, gI t, gR c, gI (HD (AR σ0 d t) z), gI s, gI n, gI (j + 1), gX 1]) ⟨.inr rfl, ⟨.inr rfl, ⟨.inr rfl, ⟨.inr rfl, ⟨.inr rfl, ⟨.inr rfl, ⟨.inr rfl, ⟨.inr rfl, ⟨.inr rfl, ⟨.inr rfl, ⟨.inl rfl, trivial⟩⟩⟩⟩⟩⟩⟩⟩⟩⟩⟩ ?_
                exact ih_22 _ (by omega) (j + 1) s n σ94 rfl (by omega) (by omega) (by first | (rw [(wS_f h0 (show ¬ _ by omega)).1]; exact hs) | (rw [(wS_t h0 (show _ ∧ _ ∧ _ ∧ _ ∧ _ ∧ _ by omega)).1, hs])) (by first | (rw [(wS_f h0 (show ¬ _ by omega)).2]; exact hn) | (rw [(wS_t h0 (show _ ∧ _ ∧ _ ∧ _ ∧ _ ∧ _ by omega)).2, hn])) (by first | exact hqv | exact hq_121 | exact hq_94) (by first | exact hkv | exact (hkv.trans hk_94).trans hk_121 | exact hkv.trans hk_94)
              · skip
                refine w_aload_n (pc' := 106) (i := 0) (by rfl) (by rfl) dX3_weigh_105 rfl ?_
                refine w_getS (pc' := 109) (q := 14) fg_X3_19 kd_110 sf_X3_1 gr_110_1 dX3_weigh_106 rfl ?_
                refine w_aload_n (pc' := 110) (i := 0) (by rfl) (by rfl) dX3_weigh_109 rfl ?_
                refine w_getS (pc' := 113) (q := 41) fg_X3_31 kd_110 sf_X3_4 gr_110_4 dX3_weigh_110 rfl ?_
                refine w_iload (pc' := 115) (by rfl) dX3_weigh_113 rfl ?_
                refine v_callVE (pc' := 118) (st' := [gI (σ0 42 j), gR 14]) (d' := 1) (av := [gI j]) mi_mX2_giver lk_X3_77 rfl ci_X2 kd_41 rfl (Nat.le_of_ble_eq_true rfl) (Nat.le_of_ble_eq_true rfl) dX3_weigh_115 rfl rfl (hmP (F := fun z => gI (z 42 j)) (hq_94.1) (fun _ => rfl) (gi_giver σ94 (hm_FA (hq_94.1) hI.1).1.hz j (gr_n (hq_94.1) ⟨by omega, by omega⟩))) ?_
                refine w_iload_n (pc' := 119) (i := 3) (by rfl) (by rfl) dX3_weigh_118 rfl ?_
                refine w_iload (pc' := 121) (by rfl) dX3_weigh_119 rfl ?_
                refine w_callV (pc' := 124) (d' := 3) (av := [gI (σ0 42 j), gI d, gI t]) mi_mX7_headOf lk_X3_134 rfl ci_X7 kd_14 rfl (Nat.le_of_ble_eq_true rfl) (Nat.le_of_ble_eq_true rfl) dX3_weigh_121 rfl (k_headOf hI hq_94 (σ0 42 j) d t (by (first | omega | (have := hrow (by omega); omega)))) (fun v_121 σ121 q_121 => ?_)
                obtain ⟨rfl, hq_121, hk_121⟩ := q_121
                show Wp _ _ _ _ _ _ [gI (HD (AR σ0 d t) (σ0 42 j))]
                refine w_iload (pc' := 126) (by rfl) dX3_weigh_124 rfl ?_
                refine w_icmp_ne (pc' := 129) (t := 163) dX3_weigh_126 rfl rfl (fun c_126 => ?_) (fun c_126 => ?_)
                · skip
                  refine v_iinc (pc' := 166) (x := j) (ls' := [gR 110, gI p, gI z, gI d, gI t, gR c, gI (HD (AR σ0 d t) z), gI s, gI n, gI (j + 1), gI (σ0 45 j)]) (by (first | omega | (have := hrow (by omega); omega))) (by decide) (by rfl) (by rfl) dX3_weigh_163 rfl ?_
                  refine w_goto (pc' := 22) dX3_weigh_166 rfl ?_
                  refine Wp.lose (ls' := [gR 110, gI p, gI z, gI d, gI t, gR c, gI (HD (AR σ0 d t) z), gI s, gI n, gI (j + 1), gX 1]) ⟨.inr rfl, ⟨.inr rfl, ⟨.inr rfl, ⟨.inr rfl, ⟨.inr rfl, ⟨.inr rfl, ⟨.inr rfl, ⟨.inr rfl, ⟨.inr rfl, ⟨.inr rfl, ⟨.inl rfl, trivial⟩⟩⟩⟩⟩⟩⟩⟩⟩⟩⟩ ?_
                  exact ih_22 _ (by omega) (j + 1) s n σ121 rfl (by omega) (by omega) (by first | (rw [(wS_f h0 (show ¬ _ by omega)).1]; exact hs) | (rw [(wS_t h0 (show _ ∧ _ ∧ _ ∧ _ ∧ _ ∧ _ by omega)).1, hs])) (by first | (rw [(wS_f h0 (show ¬ _ by omega)).2]; exact hn) | (rw [(wS_t h0 (show _ ∧ _ ∧ _ ∧ _ ∧ _ ∧ _ by omega)).2, hn])) (by first | exact hqv | exact hq_121 | exact hq_94) (by first | exact hkv | exact (hkv.trans hk_94).trans hk_121 | exact hkv.trans hk_94)
                · skip
                  refine w_aload_n (pc' := 130) (i := 0) (by rfl) (by rfl) dX3_weigh_129 rfl ?_
                  refine w_getS (pc' := 133) (q := 41) fg_X3_31 kd_110 sf_X3_4 gr_110_4 dX3_weigh_130 rfl ?_
                  refine w_iload (pc' := 135) (by rfl) dX3_weigh_133 rfl ?_
                  refine w_iload_n (pc' := 136) (i := 3) (by rfl) (by rfl) dX3_weigh_135 rfl ?_
                  refine w_iload (pc' := 138) (by rfl) dX3_weigh_136 rfl ?_
                  refine v_callVE (pc' := 141) (st' := [gI (gb (BACK σ0 j t ≠ -1 ∧ BACK σ0 j t ≤ d))]) (d' := 2) (av := [gI j, gI d, gI t]) mi_mX2_isBackBy lk_X3_126 rfl ci_X2 kd_41 rfl (Nat.le_of_ble_eq_true rfl) (Nat.le_of_ble_eq_true rfl) dX3_weigh_138 rfl rfl (hmP (F := fun z => gI (gb (BACK z j t ≠ -1 ∧ BACK z j t ≤ d))) (hq_121.1) (fun _ => rfl) (g_isBackBy σ121 (hm_FA (hq_121.1) hI.1).1.hz j d t (gr_n (hq_121.1) ⟨by omega, by omega⟩))) ?_
                  refine v_if_neB (pc' := 144) (t := 163) dX3_weigh_141 rfl rfl (fun c_141 => ?_) (fun c_141 => ?_)
                  · skip
                    refine v_iinc (pc' := 166) (x := j) (ls' := [gR 110, gI p, gI z, gI d, gI t, gR c, gI (HD (AR σ0 d t) z), gI s, gI n, gI (j + 1), gI (σ0 45 j)]) (by (first | omega | (have := hrow (by omega); omega))) (by decide) (by rfl) (by rfl) dX3_weigh_163 rfl ?_
                    refine w_goto (pc' := 22) dX3_weigh_166 rfl ?_
                    refine Wp.lose (ls' := [gR 110, gI p, gI z, gI d, gI t, gR c, gI (HD (AR σ0 d t) z), gI s, gI n, gI (j + 1), gX 1]) ⟨.inr rfl, ⟨.inr rfl, ⟨.inr rfl, ⟨.inr rfl, ⟨.inr rfl, ⟨.inr rfl, ⟨.inr rfl, ⟨.inr rfl, ⟨.inr rfl, ⟨.inr rfl, ⟨.inl rfl, trivial⟩⟩⟩⟩⟩⟩⟩⟩⟩⟩⟩ ?_
                    exact ih_22 _ (by omega) (j + 1) s n σ121 rfl (by omega) (by omega) (by first | (rw [(wS_f h0 (show ¬ _ by omega)).1]; exact hs) | (rw [(wS_t h0 (show _ ∧ _ ∧ _ ∧ _ ∧ _ ∧ _ by omega)).1, hs])) (by first | (rw [(wS_f h0 (show ¬ _ by omega)).2]; exact hn) | (rw [(wS_t h0 (show _ ∧ _ ∧ _ ∧ _ ∧ _ ∧ _ by omega)).2, hn])) (by first | exact hqv | exact hq_121 | exact hq_94) (by first | exact hkv | exact (hkv.trans hk_94).trans hk_121 | exact hkv.trans hk_94)
                  · skip
                    refine w_iload (pc' := 146) (by rfl) dX3_weigh_144 rfl ?_
                    refine w_aload_n (pc' := 147) (i := 0) (by rfl) (by rfl) dX3_weigh_146 rfl ?_
                    refine w_getS (pc' := 150) (q := 41) fg_X3_31 kd_110 sf_X3_4 gr_110_4 dX3_weigh_147 rfl ?_
                    refine w_iload (pc' := 152) (by rfl) dX3_weigh_150 rfl ?_
                    refine w_iload (pc' := 154) (by rfl) dX3_weigh_152 rfl ?_
                    refine v_callVE (pc' := 157) (st' := [gI (LEAST σ0 j t), gI s]) (d' := 2) (av := [gI j, gI t]) mi_mX2_leastOf lk_X3_71 rfl ci_X2 kd_41 rfl (Nat.le_of_ble_eq_true rfl) (Nat.le_of_ble_eq_true rfl) dX3_weigh_154 rfl rfl (hmP (F := fun z => gI (LEAST z j t)) (hq_121.1) (fun _ => rfl) (g_leastOf σ121 (hm_FA (hq_121.1) hI.1).1.hz j t (gr_n (hq_121.1) ⟨by omega, by omega⟩))) ?_
                    refine v_iadd (pc' := 158) (by have := hle (by omega); omega) dX3_weigh_157 rfl ?_
                    refine w_istore (pc' := 160) (ls' := [gR 110, gI p, gI z, gI d, gI t, gR c, gI (HD (AR σ0 d t) z), gI (s + (LEAST σ0 j t)), gI n, gI j, gI (σ0 45 j)]) (by decide) (by rfl) dX3_weigh_158 rfl ?_
                    refine v_iinc (pc' := 163) (x := n) (ls' := [gR 110, gI p, gI z, gI d, gI t, gR c, gI (HD (AR σ0 d t) z), gI (s + (LEAST σ0 j t)), gI (n + 1), gI j, gI (σ0 45 j)]) (by (first | omega | (have := hrow (by omega); omega))) (by decide) (by rfl) (by rfl) dX3_weigh_160 rfl ?_
                    refine v_iinc (pc' := 166) (x := j) (ls' := [gR 110, gI p, gI z, gI d, gI t, gR c, gI (HD (AR σ0 d t) z), gI (s + (LEAST σ0 j t)), gI (n + 1), gI (j + 1), gI (σ0 45 j)]) (by (first | omega | (have := hrow (by omega); omega))) (by decide) (by rfl) (by rfl) dX3_weigh_163 rfl ?_
                    refine w_goto (pc' := 22) dX3_weigh_166 rfl ?_
                    refine Wp.lose (ls' := [gR 110, gI p, gI z, gI d, gI t, gR c, gI (HD (AR σ0 d t) z), gI (s + (LEAST σ0 j t)), gI (n + 1), gI (j + 1), gX 1]) ⟨.inr rfl, ⟨.inr rfl, ⟨.inr rfl, ⟨.inr rfl, ⟨.inr rfl, ⟨.inr rfl, ⟨.inr rfl, ⟨.inr rfl, ⟨.inr rfl, ⟨.inr rfl, ⟨.inl rfl, trivial⟩⟩⟩⟩⟩⟩⟩⟩⟩⟩⟩ ?_
                    exact ih_22 _ (by omega) (j + 1) (s + (LEAST σ0 j t)) (n + 1) σ121 rfl (by omega) (by omega) (by first | (rw [(wS_f h0 (show ¬ _ by omega)).1]; exact hs) | (rw [(wS_t h0 (show _ ∧ _ ∧ _ ∧ _ ∧ _ ∧ _ by omega)).1, hs])) (by first | (rw [(wS_f h0 (show ¬ _ by omega)).2]; exact hn) | (rw [(wS_t h0 (show _ ∧ _ ∧ _ ∧ _ ∧ _ ∧ _ by omega)).2, hn])) (by first | exact hqv | exact hq_121 | exact hq_94) (by first | exact hkv | exact (hkv.trans hk_94).trans hk_121 | exact hkv.trans hk_94)
  exact hl_22 _ 0 0 0 σ8 rfl (by omega) (by omega) (by rfl) (by rfl) (by first | exact hq_8 | exact hq) (by first | exact hk_8 | exact Kp.refl)
