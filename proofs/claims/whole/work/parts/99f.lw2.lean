/-! the class reads a law: nots that wait (gen/mod_lw2.py) -/
theorem rowsN68 {σ : gH} : σ = gUp (gUp (gUp (gUr (gUr (gUr σ 72 (σ 72)) 73 (σ 73)) 74 (σ 74)) 68 15 (σ 68 15)) 57 17 (σ 57 17)) 57 14 (σ 57 14) := by
  rw [show gUr σ 72 (σ 72) = σ from gUr_id, show gUr σ 73 (σ 73) = σ from gUr_id, show gUr σ 74 (σ 74) = σ from gUr_id, show gUp σ 68 15 (σ 68 15) = σ from gUp_id, show gUp σ 57 17 (σ 57 17) = σ from gUp_id, show gUp σ 57 14 (σ 57 14) = σ from gUp_id]
theorem kl68_closeNots {σ : gH} (hd : σ 57 5 = 68) (ht : 0 ≤ (σ 57 17) ∧ (σ 57 17) ≤ 64) (hs0 : 0 ≤ (σ 68 15) ∧ (σ 68 15) + (σ 57 17) ≤ 120) (hdp : -1000 ≤ (σ 57 14) ∧ (σ 57 14) ≤ 1000) : Mt mX5_closeNots 1 [gR 57] σ (fun v σ' => ∃ m, v = gX 1 ∧ NTS (σ 67) 14 (σ 57 17) m ∧ σ' = gUp (gUp (gUp (gUp (gUr (gUr (gUr σ 72 (pfl (σ 72) (σ 68 15) ((σ 57 17) - m) 14)) 73 (pfl (σ 73) (σ 68 15) ((σ 57 17) - m) 0)) 74 (pfl (σ 74) (σ 68 15) ((σ 57 17) - m) 0)) 68 15 ((σ 68 15) + ((σ 57 17) - m))) 57 17 m) 57 14 ((σ 57 14) - ((σ 57 17) - m))) 57 6 7) := by
  refine Mt.walk (ls := [gR 57, gX 1]) pn_X5 rfl (fun _ _ h => by obtain ⟨_, h, _⟩ := h; cases h) (Nat.le_of_ble_eq_true rfl) rfl ?_
  have hd9 := hd
  refine w_iconst (pc' := 1) (by decide) dX5_closeNots_0 rfl ?_
  refine w_istore_n (pc' := 2) (i := 1) (ls' := [gR 57, gI 0]) (by rfl) (by decide) (by rfl) dX5_closeNots_1 rfl ?_
  have hl_2 : ∀ (mm : Nat) (i m s dp : Int) (A B D : Int → Int), m.toNat = mm → (0 ≤ m ∧ m ≤ (σ 57 17)) → (i = (σ 57 17) - m) → (s = (σ 68 15) + ((σ 57 17) - m)) → (dp = (σ 57 14) - ((σ 57 17) - m)) → (∀ k, m ≤ k → k < (σ 57 17) → σ 67 k = 14) → (A = pfl (σ 72) (σ 68 15) ((σ 57 17) - m) 14) → (B = pfl (σ 73) (σ 68 15) ((σ 57 17) - m) 0) → (D = pfl (σ 74) (σ 68 15) ((σ 57 17) - m) 0) → Wp mX5_closeNots 1 (fun v σ' => ∃ m, v = gX 1 ∧ NTS (σ 67) 14 (σ 57 17) m ∧ σ' = gUp (gUp (gUp (gUp (gUr (gUr (gUr σ 72 (pfl (σ 72) (σ 68 15) ((σ 57 17) - m) 14)) 73 (pfl (σ 73) (σ 68 15) ((σ 57 17) - m) 0)) 74 (pfl (σ 74) (σ 68 15) ((σ 57 17) - m) 0)) 68 15 ((σ 68 15) + ((σ 57 17) - m))) 57 17 m) 57 14 ((σ 57 14) - ((σ 57 17) - m))) 57 6 7) (gUp (gUp (gUp (gUr (gUr (gUr σ 72 A) 73 B) 74 D) 68 15 s) 57 17 m) 57 14 dp) 2 [gR 57, gI i] [] := by
    intro m_2
    induction m_2 using Nat.strongRecOn with
    | _ m_2 ih_2 =>
      intro i m s dp A B D hmeas_2 m0 hi hs hd hall hA hB hD
      have hl := LWT_in (σ 67) m
      refine w_iload_n (pc' := 3) (i := 1) (by rfl) (by rfl) dX5_closeNots_2 rfl ?_
      refine w_bipush (pc' := 5) (by decide) (by decide) dX5_closeNots_3 rfl ?_
      refine w_icmp_ge (pc' := 8) (t := 54) dX5_closeNots_5 rfl rfl (fun c_5 => ?_) (fun c_5 => ?_)
      · skip
        refine w_aload_n (pc' := 55) (i := 0) (by rfl) (by rfl) dX5_closeNots_54 rfl ?_
        refine w_bipush (pc' := 57) (by decide) (by decide) dX5_closeNots_55 rfl ?_
        refine v_putI (pc' := 60) (ji := 6) rfl fp_X5_63 kd_57 sf_X5_6 dX5_closeNots_57 rfl ?_
        refine w_return rfl dX5_closeNots_60 ?_
        exact ⟨m, rfl, ⟨m0, hall, fun h => by omega⟩, by rw [hA, hB, hD, hs, hd]⟩
      · skip
        refine w_aload_n (pc' := 9) (i := 0) (by rfl) (by rfl) dX5_closeNots_8 rfl ?_
        refine v_callVE (pc' := 12) (st' := [gI (LWT (σ 67) m)]) (d' := 0) (av := []) mi_mX5_lastWaiting lk_X5_181 rfl ci_X5 kd_57 rfl (Nat.le_of_ble_eq_true rfl) (Nat.le_of_ble_eq_true rfl) dX5_closeNots_9 rfl rfl (kl_lastWaiting (σ := gUp (gUp (gUp (gUr (gUr (gUr σ 72 A) 73 B) 74 D) 68 15 s) 57 17 m) 57 14 dp) (show 0 ≤ m ∧ m ≤ 64 by omega)) ?_
        refine w_bipush (pc' := 14) (by decide) (by decide) dX5_closeNots_12 rfl ?_
        refine w_icmp_ne (pc' := 17) (t := 54) dX5_closeNots_14 rfl rfl (fun c_14 => ?_) (fun c_14 => ?_)
        · skip
          refine w_aload_n (pc' := 55) (i := 0) (by rfl) (by rfl) dX5_closeNots_54 rfl ?_
          refine w_bipush (pc' := 57) (by decide) (by decide) dX5_closeNots_55 rfl ?_
          refine v_putI (pc' := 60) (ji := 6) rfl fp_X5_63 kd_57 sf_X5_6 dX5_closeNots_57 rfl ?_
          refine w_return rfl dX5_closeNots_60 ?_
          exact ⟨m, rfl, ⟨m0, hall, fun h => by omega⟩, by rw [hA, hB, hD, hs, hd]⟩
        · skip
          refine w_aload_n (pc' := 18) (i := 0) (by rfl) (by rfl) dX5_closeNots_17 rfl ?_
          refine v_getM (pc' := 21) (q := 68) (ji := 5) rfl fg_X5_29 kd_57 hd9 dX5_closeNots_18 rfl ?_
          refine w_bipush (pc' := 23) (by decide) (by decide) dX5_closeNots_21 rfl ?_
          refine w_iconst (pc' := 24) (by decide) dX5_closeNots_23 rfl ?_
          refine w_iconst (pc' := 25) (by decide) dX5_closeNots_24 rfl ?_
          refine w_callV (pc' := 28) (d' := 0) (av := [gI 14, gI 0, gI 0]) mi_mX4_put lk_X5_168 rfl ci_X4 kd_68 rfl (Nat.le_of_ble_eq_true rfl) (Nat.le_of_ble_eq_true rfl) dX5_closeNots_25 rfl (kl68_put (σ := gUp (gUp (gUp (gUr (gUr (gUr σ 72 A) 73 B) 74 D) 68 15 s) 57 17 m) 57 14 dp) 14 0 0 (show 0 ≤ s ∧ s < 120 by omega)) (fun v_25 σ_25 q_25 => ?_)
          obtain ⟨rfl, rfl⟩ := q_25
          refine Wp.heq (σ' := gUp (gUp (gUp (gUr (gUr (gUr σ 72 (updI A s 14)) 73 (updI B s 0)) 74 (updI D s 0)) 68 15 (s + 1)) 57 17 m) 57 14 dp) ((congrArg (fun z => gUp z 68 15 (s + 1)) ((congrArg (fun z => gUp z 74 s 0) ((congrArg (fun z => gUp z 73 s 0) ((gUp_cu (by decide)).trans (congrArg (fun z => gUp z 57 14 dp) ((gUp_cu (by decide)).trans (congrArg (fun z => gUp z 57 17 m) ((gUp_cu (by decide)).trans (congrArg (fun z => gUp z 68 15 s) ((gUp_cr (by decide)).trans (congrArg (fun z => gUr z 74 D) ((gUp_cr (by decide)).trans (congrArg (fun z => gUr z 73 B) gUp_row))))))))))).trans ((gUp_cu (by decide)).trans (congrArg (fun z => gUp z 57 14 dp) ((gUp_cu (by decide)).trans (congrArg (fun z => gUp z 57 17 m) ((gUp_cu (by decide)).trans (congrArg (fun z => gUp z 68 15 s) ((gUp_cr (by decide)).trans (congrArg (fun z => gUr z 74 D) gUp_row)))))))))).trans ((gUp_cu (by decide)).trans (congrArg (fun z => gUp z 57 14 dp) ((gUp_cu (by decide)).trans (congrArg (fun z => gUp z 57 17 m) ((gUp_cu (by decide)).trans (congrArg (fun z => gUp z 68 15 s) gUp_row)))))))).trans ((gUp_cu (by decide)).trans (congrArg (fun z => gUp z 57 14 dp) ((gUp_cu (by decide)).trans (congrArg (fun z => gUp z 57 17 m) gUp_same))))) ?_
          show Wp _ _ _ _ _ _ []
          refine w_aload_n (pc' := 29) (i := 0) (by rfl) (by rfl) dX5_closeNots_28 rfl ?_
          refine w_dup (pc' := 30) dX5_closeNots_29 rfl ?_
          refine v_getI (pc' := 33) (ji := 17) rfl fg_X5_156 kd_57 dX5_closeNots_30 rfl ?_
          show Wp _ _ _ _ _ _ [gI m, gR 57]
          refine w_iconst (pc' := 34) (by decide) dX5_closeNots_33 rfl ?_
          refine v_isub (pc' := 35) (by omega) dX5_closeNots_34 rfl ?_
          refine v_putI (pc' := 38) (ji := 17) rfl fp_X5_156 kd_57 sf_X5_17 dX5_closeNots_35 rfl ?_
          refine Wp.heq (σ' := gUp (gUp (gUp (gUr (gUr (gUr σ 72 (updI A s 14)) 73 (updI B s 0)) 74 (updI D s 0)) 68 15 (s + 1)) 57 17 (m - 1)) 57 14 dp) ((gUp_ci (by decide)).trans (congrArg (fun z => gUp z 57 14 dp) gUp_same)) ?_
          refine w_aload_n (pc' := 39) (i := 0) (by rfl) (by rfl) dX5_closeNots_38 rfl ?_
          refine w_dup (pc' := 40) dX5_closeNots_39 rfl ?_
          refine v_getI (pc' := 43) (ji := 14) rfl fg_X5_150 kd_57 dX5_closeNots_40 rfl ?_
          show Wp _ _ _ _ _ _ [gI dp, gR 57]
          refine w_iconst (pc' := 44) (by decide) dX5_closeNots_43 rfl ?_
          refine v_isub (pc' := 45) (by omega) dX5_closeNots_44 rfl ?_
          refine v_putI (pc' := 48) (ji := 14) rfl fp_X5_150 kd_57 sf_X5_14 dX5_closeNots_45 rfl ?_
          refine Wp.heq (σ' := gUp (gUp (gUp (gUr (gUr (gUr σ 72 (updI A s 14)) 73 (updI B s 0)) 74 (updI D s 0)) 68 15 (s + 1)) 57 17 (m - 1)) 57 14 (dp - 1)) gUp_same ?_
          refine v_iinc (pc' := 51) (x := i) (ls' := [gR 57, gI (i + 1)]) (by omega) (by decide) (by rfl) (by rfl) dX5_closeNots_48 rfl ?_
          refine w_goto (pc' := 2) dX5_closeNots_51 rfl ?_
          exact ih_2 _ (by omega) (i + 1) (m - 1) (s + 1) (dp - 1) (updI A s 14) (updI B s 0) (updI D s 0) rfl (by omega) (by omega) (by omega) (by omega) (by intro k a b; by_cases e : k = m - 1; (rw [e]; omega); exact hall k (by omega) b) (by rw [hA, show s = (σ 68 15) + ((σ 57 17) - m) from hs, pfl_s (by omega), show (σ 57 17) - m + 1 = (σ 57 17) - (m - 1) by omega]) (by rw [hB, show s = (σ 68 15) + ((σ 57 17) - m) from hs, pfl_s (by omega), show (σ 57 17) - m + 1 = (σ 57 17) - (m - 1) by omega]) (by rw [hD, show s = (σ 68 15) + ((σ 57 17) - m) from hs, pfl_s (by omega), show (σ 57 17) - m + 1 = (σ 57 17) - (m - 1) by omega])
  refine Wp.heq (σ' := gUp (gUp (gUp (gUr (gUr (gUr σ 72 (σ 72)) 73 (σ 73)) 74 (σ 74)) 68 15 (σ 68 15)) 57 17 (σ 57 17)) 57 14 (σ 57 14)) rowsN68 ?_
  exact hl_2 _ 0 (σ 57 17) (σ 68 15) (σ 57 14) (σ 72) (σ 73) (σ 74) rfl (by omega) (by omega) (by omega) (by omega) (by intro k a b; omega) (by rw [Int.sub_self]; exact pfl_0.symm) (by rw [Int.sub_self]; exact pfl_0.symm) (by rw [Int.sub_self]; exact pfl_0.symm)
theorem rowsN75 {σ : gH} : σ = gUp (gUp (gUp (gUr (gUr (gUr σ 79 (σ 79)) 80 (σ 80)) 81 (σ 81)) 75 15 (σ 75 15)) 57 17 (σ 57 17)) 57 14 (σ 57 14) := by
  rw [show gUr σ 79 (σ 79) = σ from gUr_id, show gUr σ 80 (σ 80) = σ from gUr_id, show gUr σ 81 (σ 81) = σ from gUr_id, show gUp σ 75 15 (σ 75 15) = σ from gUp_id, show gUp σ 57 17 (σ 57 17) = σ from gUp_id, show gUp σ 57 14 (σ 57 14) = σ from gUp_id]
theorem kl75_closeNots {σ : gH} (hd : σ 57 5 = 75) (ht : 0 ≤ (σ 57 17) ∧ (σ 57 17) ≤ 64) (hs0 : 0 ≤ (σ 75 15) ∧ (σ 75 15) + (σ 57 17) ≤ 120) (hdp : -1000 ≤ (σ 57 14) ∧ (σ 57 14) ≤ 1000) : Mt mX5_closeNots 1 [gR 57] σ (fun v σ' => ∃ m, v = gX 1 ∧ NTS (σ 67) 14 (σ 57 17) m ∧ σ' = gUp (gUp (gUp (gUp (gUr (gUr (gUr σ 79 (pfl (σ 79) (σ 75 15) ((σ 57 17) - m) 14)) 80 (pfl (σ 80) (σ 75 15) ((σ 57 17) - m) 0)) 81 (pfl (σ 81) (σ 75 15) ((σ 57 17) - m) 0)) 75 15 ((σ 75 15) + ((σ 57 17) - m))) 57 17 m) 57 14 ((σ 57 14) - ((σ 57 17) - m))) 57 6 7) := by
  refine Mt.walk (ls := [gR 57, gX 1]) pn_X5 rfl (fun _ _ h => by obtain ⟨_, h, _⟩ := h; cases h) (Nat.le_of_ble_eq_true rfl) rfl ?_
  have hd9 := hd
  refine w_iconst (pc' := 1) (by decide) dX5_closeNots_0 rfl ?_
  refine w_istore_n (pc' := 2) (i := 1) (ls' := [gR 57, gI 0]) (by rfl) (by decide) (by rfl) dX5_closeNots_1 rfl ?_
  have hl_2 : ∀ (mm : Nat) (i m s dp : Int) (A B D : Int → Int), m.toNat = mm → (0 ≤ m ∧ m ≤ (σ 57 17)) → (i = (σ 57 17) - m) → (s = (σ 75 15) + ((σ 57 17) - m)) → (dp = (σ 57 14) - ((σ 57 17) - m)) → (∀ k, m ≤ k → k < (σ 57 17) → σ 67 k = 14) → (A = pfl (σ 79) (σ 75 15) ((σ 57 17) - m) 14) → (B = pfl (σ 80) (σ 75 15) ((σ 57 17) - m) 0) → (D = pfl (σ 81) (σ 75 15) ((σ 57 17) - m) 0) → Wp mX5_closeNots 1 (fun v σ' => ∃ m, v = gX 1 ∧ NTS (σ 67) 14 (σ 57 17) m ∧ σ' = gUp (gUp (gUp (gUp (gUr (gUr (gUr σ 79 (pfl (σ 79) (σ 75 15) ((σ 57 17) - m) 14)) 80 (pfl (σ 80) (σ 75 15) ((σ 57 17) - m) 0)) 81 (pfl (σ 81) (σ 75 15) ((σ 57 17) - m) 0)) 75 15 ((σ 75 15) + ((σ 57 17) - m))) 57 17 m) 57 14 ((σ 57 14) - ((σ 57 17) - m))) 57 6 7) (gUp (gUp (gUp (gUr (gUr (gUr σ 79 A) 80 B) 81 D) 75 15 s) 57 17 m) 57 14 dp) 2 [gR 57, gI i] [] := by
    intro m_2
    induction m_2 using Nat.strongRecOn with
    | _ m_2 ih_2 =>
      intro i m s dp A B D hmeas_2 m0 hi hs hd hall hA hB hD
      have hl := LWT_in (σ 67) m
      refine w_iload_n (pc' := 3) (i := 1) (by rfl) (by rfl) dX5_closeNots_2 rfl ?_
      refine w_bipush (pc' := 5) (by decide) (by decide) dX5_closeNots_3 rfl ?_
      refine w_icmp_ge (pc' := 8) (t := 54) dX5_closeNots_5 rfl rfl (fun c_5 => ?_) (fun c_5 => ?_)
      · skip
        refine w_aload_n (pc' := 55) (i := 0) (by rfl) (by rfl) dX5_closeNots_54 rfl ?_
        refine w_bipush (pc' := 57) (by decide) (by decide) dX5_closeNots_55 rfl ?_
        refine v_putI (pc' := 60) (ji := 6) rfl fp_X5_63 kd_57 sf_X5_6 dX5_closeNots_57 rfl ?_
        refine w_return rfl dX5_closeNots_60 ?_
        exact ⟨m, rfl, ⟨m0, hall, fun h => by omega⟩, by rw [hA, hB, hD, hs, hd]⟩
      · skip
        refine w_aload_n (pc' := 9) (i := 0) (by rfl) (by rfl) dX5_closeNots_8 rfl ?_
        refine v_callVE (pc' := 12) (st' := [gI (LWT (σ 67) m)]) (d' := 0) (av := []) mi_mX5_lastWaiting lk_X5_181 rfl ci_X5 kd_57 rfl (Nat.le_of_ble_eq_true rfl) (Nat.le_of_ble_eq_true rfl) dX5_closeNots_9 rfl rfl (kl_lastWaiting (σ := gUp (gUp (gUp (gUr (gUr (gUr σ 79 A) 80 B) 81 D) 75 15 s) 57 17 m) 57 14 dp) (show 0 ≤ m ∧ m ≤ 64 by omega)) ?_
        refine w_bipush (pc' := 14) (by decide) (by decide) dX5_closeNots_12 rfl ?_
        refine w_icmp_ne (pc' := 17) (t := 54) dX5_closeNots_14 rfl rfl (fun c_14 => ?_) (fun c_14 => ?_)
        · skip
          refine w_aload_n (pc' := 55) (i := 0) (by rfl) (by rfl) dX5_closeNots_54 rfl ?_
          refine w_bipush (pc' := 57) (by decide) (by decide) dX5_closeNots_55 rfl ?_
          refine v_putI (pc' := 60) (ji := 6) rfl fp_X5_63 kd_57 sf_X5_6 dX5_closeNots_57 rfl ?_
          refine w_return rfl dX5_closeNots_60 ?_
          exact ⟨m, rfl, ⟨m0, hall, fun h => by omega⟩, by rw [hA, hB, hD, hs, hd]⟩
        · skip
          refine w_aload_n (pc' := 18) (i := 0) (by rfl) (by rfl) dX5_closeNots_17 rfl ?_
          refine v_getM (pc' := 21) (q := 75) (ji := 5) rfl fg_X5_29 kd_57 hd9 dX5_closeNots_18 rfl ?_
          refine w_bipush (pc' := 23) (by decide) (by decide) dX5_closeNots_21 rfl ?_
          refine w_iconst (pc' := 24) (by decide) dX5_closeNots_23 rfl ?_
          refine w_iconst (pc' := 25) (by decide) dX5_closeNots_24 rfl ?_
          refine w_callV (pc' := 28) (d' := 0) (av := [gI 14, gI 0, gI 0]) mi_mX4_put lk_X5_168 rfl ci_X4 kd_75 rfl (Nat.le_of_ble_eq_true rfl) (Nat.le_of_ble_eq_true rfl) dX5_closeNots_25 rfl (kl75_put (σ := gUp (gUp (gUp (gUr (gUr (gUr σ 79 A) 80 B) 81 D) 75 15 s) 57 17 m) 57 14 dp) 14 0 0 (show 0 ≤ s ∧ s < 120 by omega)) (fun v_25 σ_25 q_25 => ?_)
          obtain ⟨rfl, rfl⟩ := q_25
          refine Wp.heq (σ' := gUp (gUp (gUp (gUr (gUr (gUr σ 79 (updI A s 14)) 80 (updI B s 0)) 81 (updI D s 0)) 75 15 (s + 1)) 57 17 m) 57 14 dp) ((congrArg (fun z => gUp z 75 15 (s + 1)) ((congrArg (fun z => gUp z 81 s 0) ((congrArg (fun z => gUp z 80 s 0) ((gUp_cu (by decide)).trans (congrArg (fun z => gUp z 57 14 dp) ((gUp_cu (by decide)).trans (congrArg (fun z => gUp z 57 17 m) ((gUp_cu (by decide)).trans (congrArg (fun z => gUp z 75 15 s) ((gUp_cr (by decide)).trans (congrArg (fun z => gUr z 81 D) ((gUp_cr (by decide)).trans (congrArg (fun z => gUr z 80 B) gUp_row))))))))))).trans ((gUp_cu (by decide)).trans (congrArg (fun z => gUp z 57 14 dp) ((gUp_cu (by decide)).trans (congrArg (fun z => gUp z 57 17 m) ((gUp_cu (by decide)).trans (congrArg (fun z => gUp z 75 15 s) ((gUp_cr (by decide)).trans (congrArg (fun z => gUr z 81 D) gUp_row)))))))))).trans ((gUp_cu (by decide)).trans (congrArg (fun z => gUp z 57 14 dp) ((gUp_cu (by decide)).trans (congrArg (fun z => gUp z 57 17 m) ((gUp_cu (by decide)).trans (congrArg (fun z => gUp z 75 15 s) gUp_row)))))))).trans ((gUp_cu (by decide)).trans (congrArg (fun z => gUp z 57 14 dp) ((gUp_cu (by decide)).trans (congrArg (fun z => gUp z 57 17 m) gUp_same))))) ?_
          show Wp _ _ _ _ _ _ []
          refine w_aload_n (pc' := 29) (i := 0) (by rfl) (by rfl) dX5_closeNots_28 rfl ?_
          refine w_dup (pc' := 30) dX5_closeNots_29 rfl ?_
          refine v_getI (pc' := 33) (ji := 17) rfl fg_X5_156 kd_57 dX5_closeNots_30 rfl ?_
          show Wp _ _ _ _ _ _ [gI m, gR 57]
          refine w_iconst (pc' := 34) (by decide) dX5_closeNots_33 rfl ?_
          refine v_isub (pc' := 35) (by omega) dX5_closeNots_34 rfl ?_
          refine v_putI (pc' := 38) (ji := 17) rfl fp_X5_156 kd_57 sf_X5_17 dX5_closeNots_35 rfl ?_
          refine Wp.heq (σ' := gUp (gUp (gUp (gUr (gUr (gUr σ 79 (updI A s 14)) 80 (updI B s 0)) 81 (updI D s 0)) 75 15 (s + 1)) 57 17 (m - 1)) 57 14 dp) ((gUp_ci (by decide)).trans (congrArg (fun z => gUp z 57 14 dp) gUp_same)) ?_
          refine w_aload_n (pc' := 39) (i := 0) (by rfl) (by rfl) dX5_closeNots_38 rfl ?_
          refine w_dup (pc' := 40) dX5_closeNots_39 rfl ?_
          refine v_getI (pc' := 43) (ji := 14) rfl fg_X5_150 kd_57 dX5_closeNots_40 rfl ?_
          show Wp _ _ _ _ _ _ [gI dp, gR 57]
          refine w_iconst (pc' := 44) (by decide) dX5_closeNots_43 rfl ?_
          refine v_isub (pc' := 45) (by omega) dX5_closeNots_44 rfl ?_
          refine v_putI (pc' := 48) (ji := 14) rfl fp_X5_150 kd_57 sf_X5_14 dX5_closeNots_45 rfl ?_
          refine Wp.heq (σ' := gUp (gUp (gUp (gUr (gUr (gUr σ 79 (updI A s 14)) 80 (updI B s 0)) 81 (updI D s 0)) 75 15 (s + 1)) 57 17 (m - 1)) 57 14 (dp - 1)) gUp_same ?_
          refine v_iinc (pc' := 51) (x := i) (ls' := [gR 57, gI (i + 1)]) (by omega) (by decide) (by rfl) (by rfl) dX5_closeNots_48 rfl ?_
          refine w_goto (pc' := 2) dX5_closeNots_51 rfl ?_
          exact ih_2 _ (by omega) (i + 1) (m - 1) (s + 1) (dp - 1) (updI A s 14) (updI B s 0) (updI D s 0) rfl (by omega) (by omega) (by omega) (by omega) (by intro k a b; by_cases e : k = m - 1; (rw [e]; omega); exact hall k (by omega) b) (by rw [hA, show s = (σ 75 15) + ((σ 57 17) - m) from hs, pfl_s (by omega), show (σ 57 17) - m + 1 = (σ 57 17) - (m - 1) by omega]) (by rw [hB, show s = (σ 75 15) + ((σ 57 17) - m) from hs, pfl_s (by omega), show (σ 57 17) - m + 1 = (σ 57 17) - (m - 1) by omega]) (by rw [hD, show s = (σ 75 15) + ((σ 57 17) - m) from hs, pfl_s (by omega), show (σ 57 17) - m + 1 = (σ 57 17) - (m - 1) by omega])
  refine Wp.heq (σ' := gUp (gUp (gUp (gUr (gUr (gUr σ 79 (σ 79)) 80 (σ 80)) 81 (σ 81)) 75 15 (σ 75 15)) 57 17 (σ 57 17)) 57 14 (σ 57 14)) rowsN75 ?_
  exact hl_2 _ 0 (σ 57 17) (σ 75 15) (σ 57 14) (σ 79) (σ 80) (σ 81) rfl (by omega) (by omega) (by omega) (by omega) (by intro k a b; omega) (by rw [Int.sub_self]; exact pfl_0.symm) (by rw [Int.sub_self]; exact pfl_0.symm) (by rw [Int.sub_self]; exact pfl_0.symm)
theorem rowsN82 {σ : gH} : σ = gUp (gUp (gUp (gUr (gUr (gUr σ 86 (σ 86)) 87 (σ 87)) 88 (σ 88)) 82 15 (σ 82 15)) 57 17 (σ 57 17)) 57 14 (σ 57 14) := by
  rw [show gUr σ 86 (σ 86) = σ from gUr_id, show gUr σ 87 (σ 87) = σ from gUr_id, show gUr σ 88 (σ 88) = σ from gUr_id, show gUp σ 82 15 (σ 82 15) = σ from gUp_id, show gUp σ 57 17 (σ 57 17) = σ from gUp_id, show gUp σ 57 14 (σ 57 14) = σ from gUp_id]
theorem kl82_closeNots {σ : gH} (hd : σ 57 5 = 82) (ht : 0 ≤ (σ 57 17) ∧ (σ 57 17) ≤ 64) (hs0 : 0 ≤ (σ 82 15) ∧ (σ 82 15) + (σ 57 17) ≤ 120) (hdp : -1000 ≤ (σ 57 14) ∧ (σ 57 14) ≤ 1000) : Mt mX5_closeNots 1 [gR 57] σ (fun v σ' => ∃ m, v = gX 1 ∧ NTS (σ 67) 14 (σ 57 17) m ∧ σ' = gUp (gUp (gUp (gUp (gUr (gUr (gUr σ 86 (pfl (σ 86) (σ 82 15) ((σ 57 17) - m) 14)) 87 (pfl (σ 87) (σ 82 15) ((σ 57 17) - m) 0)) 88 (pfl (σ 88) (σ 82 15) ((σ 57 17) - m) 0)) 82 15 ((σ 82 15) + ((σ 57 17) - m))) 57 17 m) 57 14 ((σ 57 14) - ((σ 57 17) - m))) 57 6 7) := by
  refine Mt.walk (ls := [gR 57, gX 1]) pn_X5 rfl (fun _ _ h => by obtain ⟨_, h, _⟩ := h; cases h) (Nat.le_of_ble_eq_true rfl) rfl ?_
  have hd9 := hd
  refine w_iconst (pc' := 1) (by decide) dX5_closeNots_0 rfl ?_
  refine w_istore_n (pc' := 2) (i := 1) (ls' := [gR 57, gI 0]) (by rfl) (by decide) (by rfl) dX5_closeNots_1 rfl ?_
  have hl_2 : ∀ (mm : Nat) (i m s dp : Int) (A B D : Int → Int), m.toNat = mm → (0 ≤ m ∧ m ≤ (σ 57 17)) → (i = (σ 57 17) - m) → (s = (σ 82 15) + ((σ 57 17) - m)) → (dp = (σ 57 14) - ((σ 57 17) - m)) → (∀ k, m ≤ k → k < (σ 57 17) → σ 67 k = 14) → (A = pfl (σ 86) (σ 82 15) ((σ 57 17) - m) 14) → (B = pfl (σ 87) (σ 82 15) ((σ 57 17) - m) 0) → (D = pfl (σ 88) (σ 82 15) ((σ 57 17) - m) 0) → Wp mX5_closeNots 1 (fun v σ' => ∃ m, v = gX 1 ∧ NTS (σ 67) 14 (σ 57 17) m ∧ σ' = gUp (gUp (gUp (gUp (gUr (gUr (gUr σ 86 (pfl (σ 86) (σ 82 15) ((σ 57 17) - m) 14)) 87 (pfl (σ 87) (σ 82 15) ((σ 57 17) - m) 0)) 88 (pfl (σ 88) (σ 82 15) ((σ 57 17) - m) 0)) 82 15 ((σ 82 15) + ((σ 57 17) - m))) 57 17 m) 57 14 ((σ 57 14) - ((σ 57 17) - m))) 57 6 7) (gUp (gUp (gUp (gUr (gUr (gUr σ 86 A) 87 B) 88 D) 82 15 s) 57 17 m) 57 14 dp) 2 [gR 57, gI i] [] := by
    intro m_2
    induction m_2 using Nat.strongRecOn with
    | _ m_2 ih_2 =>
      intro i m s dp A B D hmeas_2 m0 hi hs hd hall hA hB hD
      have hl := LWT_in (σ 67) m
      refine w_iload_n (pc' := 3) (i := 1) (by rfl) (by rfl) dX5_closeNots_2 rfl ?_
      refine w_bipush (pc' := 5) (by decide) (by decide) dX5_closeNots_3 rfl ?_
      refine w_icmp_ge (pc' := 8) (t := 54) dX5_closeNots_5 rfl rfl (fun c_5 => ?_) (fun c_5 => ?_)
      · skip
        refine w_aload_n (pc' := 55) (i := 0) (by rfl) (by rfl) dX5_closeNots_54 rfl ?_
        refine w_bipush (pc' := 57) (by decide) (by decide) dX5_closeNots_55 rfl ?_
        refine v_putI (pc' := 60) (ji := 6) rfl fp_X5_63 kd_57 sf_X5_6 dX5_closeNots_57 rfl ?_
        refine w_return rfl dX5_closeNots_60 ?_
        exact ⟨m, rfl, ⟨m0, hall, fun h => by omega⟩, by rw [hA, hB, hD, hs, hd]⟩
      · skip
        refine w_aload_n (pc' := 9) (i := 0) (by rfl) (by rfl) dX5_closeNots_8 rfl ?_
        refine v_callVE (pc' := 12) (st' := [gI (LWT (σ 67) m)]) (d' := 0) (av := []) mi_mX5_lastWaiting lk_X5_181 rfl ci_X5 kd_57 rfl (Nat.le_of_ble_eq_true rfl) (Nat.le_of_ble_eq_true rfl) dX5_closeNots_9 rfl rfl (kl_lastWaiting (σ := gUp (gUp (gUp (gUr (gUr (gUr σ 86 A) 87 B) 88 D) 82 15 s) 57 17 m) 57 14 dp) (show 0 ≤ m ∧ m ≤ 64 by omega)) ?_
        refine w_bipush (pc' := 14) (by decide) (by decide) dX5_closeNots_12 rfl ?_
        refine w_icmp_ne (pc' := 17) (t := 54) dX5_closeNots_14 rfl rfl (fun c_14 => ?_) (fun c_14 => ?_)
        · skip
          refine w_aload_n (pc' := 55) (i := 0) (by rfl) (by rfl) dX5_closeNots_54 rfl ?_
          refine w_bipush (pc' := 57) (by decide) (by decide) dX5_closeNots_55 rfl ?_
          refine v_putI (pc' := 60) (ji := 6) rfl fp_X5_63 kd_57 sf_X5_6 dX5_closeNots_57 rfl ?_
          refine w_return rfl dX5_closeNots_60 ?_
          exact ⟨m, rfl, ⟨m0, hall, fun h => by omega⟩, by rw [hA, hB, hD, hs, hd]⟩
        · skip
          refine w_aload_n (pc' := 18) (i := 0) (by rfl) (by rfl) dX5_closeNots_17 rfl ?_
          refine v_getM (pc' := 21) (q := 82) (ji := 5) rfl fg_X5_29 kd_57 hd9 dX5_closeNots_18 rfl ?_
          refine w_bipush (pc' := 23) (by decide) (by decide) dX5_closeNots_21 rfl ?_
          refine w_iconst (pc' := 24) (by decide) dX5_closeNots_23 rfl ?_
          refine w_iconst (pc' := 25) (by decide) dX5_closeNots_24 rfl ?_
          refine w_callV (pc' := 28) (d' := 0) (av := [gI 14, gI 0, gI 0]) mi_mX4_put lk_X5_168 rfl ci_X4 kd_82 rfl (Nat.le_of_ble_eq_true rfl) (Nat.le_of_ble_eq_true rfl) dX5_closeNots_25 rfl (kl82_put (σ := gUp (gUp (gUp (gUr (gUr (gUr σ 86 A) 87 B) 88 D) 82 15 s) 57 17 m) 57 14 dp) 14 0 0 (show 0 ≤ s ∧ s < 120 by omega)) (fun v_25 σ_25 q_25 => ?_)
          obtain ⟨rfl, rfl⟩ := q_25
          refine Wp.heq (σ' := gUp (gUp (gUp (gUr (gUr (gUr σ 86 (updI A s 14)) 87 (updI B s 0)) 88 (updI D s 0)) 82 15 (s + 1)) 57 17 m) 57 14 dp) ((congrArg (fun z => gUp z 82 15 (s + 1)) ((congrArg (fun z => gUp z 88 s 0) ((congrArg (fun z => gUp z 87 s 0) ((gUp_cu (by decide)).trans (congrArg (fun z => gUp z 57 14 dp) ((gUp_cu (by decide)).trans (congrArg (fun z => gUp z 57 17 m) ((gUp_cu (by decide)).trans (congrArg (fun z => gUp z 82 15 s) ((gUp_cr (by decide)).trans (congrArg (fun z => gUr z 88 D) ((gUp_cr (by decide)).trans (congrArg (fun z => gUr z 87 B) gUp_row))))))))))).trans ((gUp_cu (by decide)).trans (congrArg (fun z => gUp z 57 14 dp) ((gUp_cu (by decide)).trans (congrArg (fun z => gUp z 57 17 m) ((gUp_cu (by decide)).trans (congrArg (fun z => gUp z 82 15 s) ((gUp_cr (by decide)).trans (congrArg (fun z => gUr z 88 D) gUp_row)))))))))).trans ((gUp_cu (by decide)).trans (congrArg (fun z => gUp z 57 14 dp) ((gUp_cu (by decide)).trans (congrArg (fun z => gUp z 57 17 m) ((gUp_cu (by decide)).trans (congrArg (fun z => gUp z 82 15 s) gUp_row)))))))).trans ((gUp_cu (by decide)).trans (congrArg (fun z => gUp z 57 14 dp) ((gUp_cu (by decide)).trans (congrArg (fun z => gUp z 57 17 m) gUp_same))))) ?_
          show Wp _ _ _ _ _ _ []
          refine w_aload_n (pc' := 29) (i := 0) (by rfl) (by rfl) dX5_closeNots_28 rfl ?_
          refine w_dup (pc' := 30) dX5_closeNots_29 rfl ?_
          refine v_getI (pc' := 33) (ji := 17) rfl fg_X5_156 kd_57 dX5_closeNots_30 rfl ?_
          show Wp _ _ _ _ _ _ [gI m, gR 57]
          refine w_iconst (pc' := 34) (by decide) dX5_closeNots_33 rfl ?_
          refine v_isub (pc' := 35) (by omega) dX5_closeNots_34 rfl ?_
          refine v_putI (pc' := 38) (ji := 17) rfl fp_X5_156 kd_57 sf_X5_17 dX5_closeNots_35 rfl ?_
          refine Wp.heq (σ' := gUp (gUp (gUp (gUr (gUr (gUr σ 86 (updI A s 14)) 87 (updI B s 0)) 88 (updI D s 0)) 82 15 (s + 1)) 57 17 (m - 1)) 57 14 dp) ((gUp_ci (by decide)).trans (congrArg (fun z => gUp z 57 14 dp) gUp_same)) ?_
          refine w_aload_n (pc' := 39) (i := 0) (by rfl) (by rfl) dX5_closeNots_38 rfl ?_
          refine w_dup (pc' := 40) dX5_closeNots_39 rfl ?_
          refine v_getI (pc' := 43) (ji := 14) rfl fg_X5_150 kd_57 dX5_closeNots_40 rfl ?_
          show Wp _ _ _ _ _ _ [gI dp, gR 57]
          refine w_iconst (pc' := 44) (by decide) dX5_closeNots_43 rfl ?_
          refine v_isub (pc' := 45) (by omega) dX5_closeNots_44 rfl ?_
          refine v_putI (pc' := 48) (ji := 14) rfl fp_X5_150 kd_57 sf_X5_14 dX5_closeNots_45 rfl ?_
          refine Wp.heq (σ' := gUp (gUp (gUp (gUr (gUr (gUr σ 86 (updI A s 14)) 87 (updI B s 0)) 88 (updI D s 0)) 82 15 (s + 1)) 57 17 (m - 1)) 57 14 (dp - 1)) gUp_same ?_
          refine v_iinc (pc' := 51) (x := i) (ls' := [gR 57, gI (i + 1)]) (by omega) (by decide) (by rfl) (by rfl) dX5_closeNots_48 rfl ?_
          refine w_goto (pc' := 2) dX5_closeNots_51 rfl ?_
          exact ih_2 _ (by omega) (i + 1) (m - 1) (s + 1) (dp - 1) (updI A s 14) (updI B s 0) (updI D s 0) rfl (by omega) (by omega) (by omega) (by omega) (by intro k a b; by_cases e : k = m - 1; (rw [e]; omega); exact hall k (by omega) b) (by rw [hA, show s = (σ 82 15) + ((σ 57 17) - m) from hs, pfl_s (by omega), show (σ 57 17) - m + 1 = (σ 57 17) - (m - 1) by omega]) (by rw [hB, show s = (σ 82 15) + ((σ 57 17) - m) from hs, pfl_s (by omega), show (σ 57 17) - m + 1 = (σ 57 17) - (m - 1) by omega]) (by rw [hD, show s = (σ 82 15) + ((σ 57 17) - m) from hs, pfl_s (by omega), show (σ 57 17) - m + 1 = (σ 57 17) - (m - 1) by omega])
  refine Wp.heq (σ' := gUp (gUp (gUp (gUr (gUr (gUr σ 86 (σ 86)) 87 (σ 87)) 88 (σ 88)) 82 15 (σ 82 15)) 57 17 (σ 57 17)) 57 14 (σ 57 14)) rowsN82 ?_
  exact hl_2 _ 0 (σ 57 17) (σ 82 15) (σ 57 14) (σ 86) (σ 87) (σ 88) rfl (by omega) (by omega) (by omega) (by omega) (by intro k a b; omega) (by rw [Int.sub_self]; exact pfl_0.symm) (by rw [Int.sub_self]; exact pfl_0.symm) (by rw [Int.sub_self]; exact pfl_0.symm)
theorem rowsN89 {σ : gH} : σ = gUp (gUp (gUp (gUr (gUr (gUr σ 93 (σ 93)) 94 (σ 94)) 95 (σ 95)) 89 15 (σ 89 15)) 57 17 (σ 57 17)) 57 14 (σ 57 14) := by
  rw [show gUr σ 93 (σ 93) = σ from gUr_id, show gUr σ 94 (σ 94) = σ from gUr_id, show gUr σ 95 (σ 95) = σ from gUr_id, show gUp σ 89 15 (σ 89 15) = σ from gUp_id, show gUp σ 57 17 (σ 57 17) = σ from gUp_id, show gUp σ 57 14 (σ 57 14) = σ from gUp_id]
theorem kl89_closeNots {σ : gH} (hd : σ 57 5 = 89) (ht : 0 ≤ (σ 57 17) ∧ (σ 57 17) ≤ 64) (hs0 : 0 ≤ (σ 89 15) ∧ (σ 89 15) + (σ 57 17) ≤ 120) (hdp : -1000 ≤ (σ 57 14) ∧ (σ 57 14) ≤ 1000) : Mt mX5_closeNots 1 [gR 57] σ (fun v σ' => ∃ m, v = gX 1 ∧ NTS (σ 67) 14 (σ 57 17) m ∧ σ' = gUp (gUp (gUp (gUp (gUr (gUr (gUr σ 93 (pfl (σ 93) (σ 89 15) ((σ 57 17) - m) 14)) 94 (pfl (σ 94) (σ 89 15) ((σ 57 17) - m) 0)) 95 (pfl (σ 95) (σ 89 15) ((σ 57 17) - m) 0)) 89 15 ((σ 89 15) + ((σ 57 17) - m))) 57 17 m) 57 14 ((σ 57 14) - ((σ 57 17) - m))) 57 6 7) := by
  refine Mt.walk (ls := [gR 57, gX 1]) pn_X5 rfl (fun _ _ h => by obtain ⟨_, h, _⟩ := h; cases h) (Nat.le_of_ble_eq_true rfl) rfl ?_
  have hd9 := hd
  refine w_iconst (pc' := 1) (by decide) dX5_closeNots_0 rfl ?_
  refine w_istore_n (pc' := 2) (i := 1) (ls' := [gR 57, gI 0]) (by rfl) (by decide) (by rfl) dX5_closeNots_1 rfl ?_
  have hl_2 : ∀ (mm : Nat) (i m s dp : Int) (A B D : Int → Int), m.toNat = mm → (0 ≤ m ∧ m ≤ (σ 57 17)) → (i = (σ 57 17) - m) → (s = (σ 89 15) + ((σ 57 17) - m)) → (dp = (σ 57 14) - ((σ 57 17) - m)) → (∀ k, m ≤ k → k < (σ 57 17) → σ 67 k = 14) → (A = pfl (σ 93) (σ 89 15) ((σ 57 17) - m) 14) → (B = pfl (σ 94) (σ 89 15) ((σ 57 17) - m) 0) → (D = pfl (σ 95) (σ 89 15) ((σ 57 17) - m) 0) → Wp mX5_closeNots 1 (fun v σ' => ∃ m, v = gX 1 ∧ NTS (σ 67) 14 (σ 57 17) m ∧ σ' = gUp (gUp (gUp (gUp (gUr (gUr (gUr σ 93 (pfl (σ 93) (σ 89 15) ((σ 57 17) - m) 14)) 94 (pfl (σ 94) (σ 89 15) ((σ 57 17) - m) 0)) 95 (pfl (σ 95) (σ 89 15) ((σ 57 17) - m) 0)) 89 15 ((σ 89 15) + ((σ 57 17) - m))) 57 17 m) 57 14 ((σ 57 14) - ((σ 57 17) - m))) 57 6 7) (gUp (gUp (gUp (gUr (gUr (gUr σ 93 A) 94 B) 95 D) 89 15 s) 57 17 m) 57 14 dp) 2 [gR 57, gI i] [] := by
    intro m_2
    induction m_2 using Nat.strongRecOn with
    | _ m_2 ih_2 =>
      intro i m s dp A B D hmeas_2 m0 hi hs hd hall hA hB hD
      have hl := LWT_in (σ 67) m
      refine w_iload_n (pc' := 3) (i := 1) (by rfl) (by rfl) dX5_closeNots_2 rfl ?_
      refine w_bipush (pc' := 5) (by decide) (by decide) dX5_closeNots_3 rfl ?_
      refine w_icmp_ge (pc' := 8) (t := 54) dX5_closeNots_5 rfl rfl (fun c_5 => ?_) (fun c_5 => ?_)
      · skip
        refine w_aload_n (pc' := 55) (i := 0) (by rfl) (by rfl) dX5_closeNots_54 rfl ?_
        refine w_bipush (pc' := 57) (by decide) (by decide) dX5_closeNots_55 rfl ?_
        refine v_putI (pc' := 60) (ji := 6) rfl fp_X5_63 kd_57 sf_X5_6 dX5_closeNots_57 rfl ?_
        refine w_return rfl dX5_closeNots_60 ?_
        exact ⟨m, rfl, ⟨m0, hall, fun h => by omega⟩, by rw [hA, hB, hD, hs, hd]⟩
      · skip
        refine w_aload_n (pc' := 9) (i := 0) (by rfl) (by rfl) dX5_closeNots_8 rfl ?_
        refine v_callVE (pc' := 12) (st' := [gI (LWT (σ 67) m)]) (d' := 0) (av := []) mi_mX5_lastWaiting lk_X5_181 rfl ci_X5 kd_57 rfl (Nat.le_of_ble_eq_true rfl) (Nat.le_of_ble_eq_true rfl) dX5_closeNots_9 rfl rfl (kl_lastWaiting (σ := gUp (gUp (gUp (gUr (gUr (gUr σ 93 A) 94 B) 95 D) 89 15 s) 57 17 m) 57 14 dp) (show 0 ≤ m ∧ m ≤ 64 by omega)) ?_
        refine w_bipush (pc' := 14) (by decide) (by decide) dX5_closeNots_12 rfl ?_
        refine w_icmp_ne (pc' := 17) (t := 54) dX5_closeNots_14 rfl rfl (fun c_14 => ?_) (fun c_14 => ?_)
        · skip
          refine w_aload_n (pc' := 55) (i := 0) (by rfl) (by rfl) dX5_closeNots_54 rfl ?_
          refine w_bipush (pc' := 57) (by decide) (by decide) dX5_closeNots_55 rfl ?_
          refine v_putI (pc' := 60) (ji := 6) rfl fp_X5_63 kd_57 sf_X5_6 dX5_closeNots_57 rfl ?_
          refine w_return rfl dX5_closeNots_60 ?_
          exact ⟨m, rfl, ⟨m0, hall, fun h => by omega⟩, by rw [hA, hB, hD, hs, hd]⟩
        · skip
          refine w_aload_n (pc' := 18) (i := 0) (by rfl) (by rfl) dX5_closeNots_17 rfl ?_
          refine v_getM (pc' := 21) (q := 89) (ji := 5) rfl fg_X5_29 kd_57 hd9 dX5_closeNots_18 rfl ?_
          refine w_bipush (pc' := 23) (by decide) (by decide) dX5_closeNots_21 rfl ?_
          refine w_iconst (pc' := 24) (by decide) dX5_closeNots_23 rfl ?_
          refine w_iconst (pc' := 25) (by decide) dX5_closeNots_24 rfl ?_
          refine w_callV (pc' := 28) (d' := 0) (av := [gI 14, gI 0, gI 0]) mi_mX4_put lk_X5_168 rfl ci_X4 kd_89 rfl (Nat.le_of_ble_eq_true rfl) (Nat.le_of_ble_eq_true rfl) dX5_closeNots_25 rfl (kl89_put (σ := gUp (gUp (gUp (gUr (gUr (gUr σ 93 A) 94 B) 95 D) 89 15 s) 57 17 m) 57 14 dp) 14 0 0 (show 0 ≤ s ∧ s < 120 by omega)) (fun v_25 σ_25 q_25 => ?_)
          obtain ⟨rfl, rfl⟩ := q_25
          refine Wp.heq (σ' := gUp (gUp (gUp (gUr (gUr (gUr σ 93 (updI A s 14)) 94 (updI B s 0)) 95 (updI D s 0)) 89 15 (s + 1)) 57 17 m) 57 14 dp) ((congrArg (fun z => gUp z 89 15 (s + 1)) ((congrArg (fun z => gUp z 95 s 0) ((congrArg (fun z => gUp z 94 s 0) ((gUp_cu (by decide)).trans (congrArg (fun z => gUp z 57 14 dp) ((gUp_cu (by decide)).trans (congrArg (fun z => gUp z 57 17 m) ((gUp_cu (by decide)).trans (congrArg (fun z => gUp z 89 15 s) ((gUp_cr (by decide)).trans (congrArg (fun z => gUr z 95 D) ((gUp_cr (by decide)).trans (congrArg (fun z => gUr z 94 B) gUp_row))))))))))).trans ((gUp_cu (by decide)).trans (congrArg (fun z => gUp z 57 14 dp) ((gUp_cu (by decide)).trans (congrArg (fun z => gUp z 57 17 m) ((gUp_cu (by decide)).trans (congrArg (fun z => gUp z 89 15 s) ((gUp_cr (by decide)).trans (congrArg (fun z => gUr z 95 D) gUp_row)))))))))).trans ((gUp_cu (by decide)).trans (congrArg (fun z => gUp z 57 14 dp) ((gUp_cu (by decide)).trans (congrArg (fun z => gUp z 57 17 m) ((gUp_cu (by decide)).trans (congrArg (fun z => gUp z 89 15 s) gUp_row)))))))).trans ((gUp_cu (by decide)).trans (congrArg (fun z => gUp z 57 14 dp) ((gUp_cu (by decide)).trans (congrArg (fun z => gUp z 57 17 m) gUp_same))))) ?_
          show Wp _ _ _ _ _ _ []
          refine w_aload_n (pc' := 29) (i := 0) (by rfl) (by rfl) dX5_closeNots_28 rfl ?_
          refine w_dup (pc' := 30) dX5_closeNots_29 rfl ?_
          refine v_getI (pc' := 33) (ji := 17) rfl fg_X5_156 kd_57 dX5_closeNots_30 rfl ?_
          show Wp _ _ _ _ _ _ [gI m, gR 57]
          refine w_iconst (pc' := 34) (by decide) dX5_closeNots_33 rfl ?_
          refine v_isub (pc' := 35) (by omega) dX5_closeNots_34 rfl ?_
          refine v_putI (pc' := 38) (ji := 17) rfl fp_X5_156 kd_57 sf_X5_17 dX5_closeNots_35 rfl ?_
          refine Wp.heq (σ' := gUp (gUp (gUp (gUr (gUr (gUr σ 93 (updI A s 14)) 94 (updI B s 0)) 95 (updI D s 0)) 89 15 (s + 1)) 57 17 (m - 1)) 57 14 dp) ((gUp_ci (by decide)).trans (congrArg (fun z => gUp z 57 14 dp) gUp_same)) ?_
          refine w_aload_n (pc' := 39) (i := 0) (by rfl) (by rfl) dX5_closeNots_38 rfl ?_
          refine w_dup (pc' := 40) dX5_closeNots_39 rfl ?_
          refine v_getI (pc' := 43) (ji := 14) rfl fg_X5_150 kd_57 dX5_closeNots_40 rfl ?_
          show Wp _ _ _ _ _ _ [gI dp, gR 57]
          refine w_iconst (pc' := 44) (by decide) dX5_closeNots_43 rfl ?_
          refine v_isub (pc' := 45) (by omega) dX5_closeNots_44 rfl ?_
          refine v_putI (pc' := 48) (ji := 14) rfl fp_X5_150 kd_57 sf_X5_14 dX5_closeNots_45 rfl ?_
          refine Wp.heq (σ' := gUp (gUp (gUp (gUr (gUr (gUr σ 93 (updI A s 14)) 94 (updI B s 0)) 95 (updI D s 0)) 89 15 (s + 1)) 57 17 (m - 1)) 57 14 (dp - 1)) gUp_same ?_
          refine v_iinc (pc' := 51) (x := i) (ls' := [gR 57, gI (i + 1)]) (by omega) (by decide) (by rfl) (by rfl) dX5_closeNots_48 rfl ?_
          refine w_goto (pc' := 2) dX5_closeNots_51 rfl ?_
          exact ih_2 _ (by omega) (i + 1) (m - 1) (s + 1) (dp - 1) (updI A s 14) (updI B s 0) (updI D s 0) rfl (by omega) (by omega) (by omega) (by omega) (by intro k a b; by_cases e : k = m - 1; (rw [e]; omega); exact hall k (by omega) b) (by rw [hA, show s = (σ 89 15) + ((σ 57 17) - m) from hs, pfl_s (by omega), show (σ 57 17) - m + 1 = (σ 57 17) - (m - 1) by omega]) (by rw [hB, show s = (σ 89 15) + ((σ 57 17) - m) from hs, pfl_s (by omega), show (σ 57 17) - m + 1 = (σ 57 17) - (m - 1) by omega]) (by rw [hD, show s = (σ 89 15) + ((σ 57 17) - m) from hs, pfl_s (by omega), show (σ 57 17) - m + 1 = (σ 57 17) - (m - 1) by omega])
  refine Wp.heq (σ' := gUp (gUp (gUp (gUr (gUr (gUr σ 93 (σ 93)) 94 (σ 94)) 95 (σ 95)) 89 15 (σ 89 15)) 57 17 (σ 57 17)) 57 14 (σ 57 14)) rowsN89 ?_
  exact hl_2 _ 0 (σ 57 17) (σ 89 15) (σ 57 14) (σ 93) (σ 94) (σ 95) rfl (by omega) (by omega) (by omega) (by omega) (by intro k a b; omega) (by rw [Int.sub_self]; exact pfl_0.symm) (by rw [Int.sub_self]; exact pfl_0.symm) (by rw [Int.sub_self]; exact pfl_0.symm)
theorem rowsN96 {σ : gH} : σ = gUp (gUp (gUp (gUr (gUr (gUr σ 100 (σ 100)) 101 (σ 101)) 102 (σ 102)) 96 15 (σ 96 15)) 57 17 (σ 57 17)) 57 14 (σ 57 14) := by
  rw [show gUr σ 100 (σ 100) = σ from gUr_id, show gUr σ 101 (σ 101) = σ from gUr_id, show gUr σ 102 (σ 102) = σ from gUr_id, show gUp σ 96 15 (σ 96 15) = σ from gUp_id, show gUp σ 57 17 (σ 57 17) = σ from gUp_id, show gUp σ 57 14 (σ 57 14) = σ from gUp_id]
theorem kl96_closeNots {σ : gH} (hd : σ 57 5 = 96) (ht : 0 ≤ (σ 57 17) ∧ (σ 57 17) ≤ 64) (hs0 : 0 ≤ (σ 96 15) ∧ (σ 96 15) + (σ 57 17) ≤ 120) (hdp : -1000 ≤ (σ 57 14) ∧ (σ 57 14) ≤ 1000) : Mt mX5_closeNots 1 [gR 57] σ (fun v σ' => ∃ m, v = gX 1 ∧ NTS (σ 67) 14 (σ 57 17) m ∧ σ' = gUp (gUp (gUp (gUp (gUr (gUr (gUr σ 100 (pfl (σ 100) (σ 96 15) ((σ 57 17) - m) 14)) 101 (pfl (σ 101) (σ 96 15) ((σ 57 17) - m) 0)) 102 (pfl (σ 102) (σ 96 15) ((σ 57 17) - m) 0)) 96 15 ((σ 96 15) + ((σ 57 17) - m))) 57 17 m) 57 14 ((σ 57 14) - ((σ 57 17) - m))) 57 6 7) := by
  refine Mt.walk (ls := [gR 57, gX 1]) pn_X5 rfl (fun _ _ h => by obtain ⟨_, h, _⟩ := h; cases h) (Nat.le_of_ble_eq_true rfl) rfl ?_
  have hd9 := hd
  refine w_iconst (pc' := 1) (by decide) dX5_closeNots_0 rfl ?_
  refine w_istore_n (pc' := 2) (i := 1) (ls' := [gR 57, gI 0]) (by rfl) (by decide) (by rfl) dX5_closeNots_1 rfl ?_
  have hl_2 : ∀ (mm : Nat) (i m s dp : Int) (A B D : Int → Int), m.toNat = mm → (0 ≤ m ∧ m ≤ (σ 57 17)) → (i = (σ 57 17) - m) → (s = (σ 96 15) + ((σ 57 17) - m)) → (dp = (σ 57 14) - ((σ 57 17) - m)) → (∀ k, m ≤ k → k < (σ 57 17) → σ 67 k = 14) → (A = pfl (σ 100) (σ 96 15) ((σ 57 17) - m) 14) → (B = pfl (σ 101) (σ 96 15) ((σ 57 17) - m) 0) → (D = pfl (σ 102) (σ 96 15) ((σ 57 17) - m) 0) → Wp mX5_closeNots 1 (fun v σ' => ∃ m, v = gX 1 ∧ NTS (σ 67) 14 (σ 57 17) m ∧ σ' = gUp (gUp (gUp (gUp (gUr (gUr (gUr σ 100 (pfl (σ 100) (σ 96 15) ((σ 57 17) - m) 14)) 101 (pfl (σ 101) (σ 96 15) ((σ 57 17) - m) 0)) 102 (pfl (σ 102) (σ 96 15) ((σ 57 17) - m) 0)) 96 15 ((σ 96 15) + ((σ 57 17) - m))) 57 17 m) 57 14 ((σ 57 14) - ((σ 57 17) - m))) 57 6 7) (gUp (gUp (gUp (gUr (gUr (gUr σ 100 A) 101 B) 102 D) 96 15 s) 57 17 m) 57 14 dp) 2 [gR 57, gI i] [] := by
    intro m_2
    induction m_2 using Nat.strongRecOn with
    | _ m_2 ih_2 =>
      intro i m s dp A B D hmeas_2 m0 hi hs hd hall hA hB hD
      have hl := LWT_in (σ 67) m
      refine w_iload_n (pc' := 3) (i := 1) (by rfl) (by rfl) dX5_closeNots_2 rfl ?_
      refine w_bipush (pc' := 5) (by decide) (by decide) dX5_closeNots_3 rfl ?_
      refine w_icmp_ge (pc' := 8) (t := 54) dX5_closeNots_5 rfl rfl (fun c_5 => ?_) (fun c_5 => ?_)
      · skip
        refine w_aload_n (pc' := 55) (i := 0) (by rfl) (by rfl) dX5_closeNots_54 rfl ?_
        refine w_bipush (pc' := 57) (by decide) (by decide) dX5_closeNots_55 rfl ?_
        refine v_putI (pc' := 60) (ji := 6) rfl fp_X5_63 kd_57 sf_X5_6 dX5_closeNots_57 rfl ?_
        refine w_return rfl dX5_closeNots_60 ?_
        exact ⟨m, rfl, ⟨m0, hall, fun h => by omega⟩, by rw [hA, hB, hD, hs, hd]⟩
      · skip
        refine w_aload_n (pc' := 9) (i := 0) (by rfl) (by rfl) dX5_closeNots_8 rfl ?_
        refine v_callVE (pc' := 12) (st' := [gI (LWT (σ 67) m)]) (d' := 0) (av := []) mi_mX5_lastWaiting lk_X5_181 rfl ci_X5 kd_57 rfl (Nat.le_of_ble_eq_true rfl) (Nat.le_of_ble_eq_true rfl) dX5_closeNots_9 rfl rfl (kl_lastWaiting (σ := gUp (gUp (gUp (gUr (gUr (gUr σ 100 A) 101 B) 102 D) 96 15 s) 57 17 m) 57 14 dp) (show 0 ≤ m ∧ m ≤ 64 by omega)) ?_
        refine w_bipush (pc' := 14) (by decide) (by decide) dX5_closeNots_12 rfl ?_
        refine w_icmp_ne (pc' := 17) (t := 54) dX5_closeNots_14 rfl rfl (fun c_14 => ?_) (fun c_14 => ?_)
        · skip
          refine w_aload_n (pc' := 55) (i := 0) (by rfl) (by rfl) dX5_closeNots_54 rfl ?_
          refine w_bipush (pc' := 57) (by decide) (by decide) dX5_closeNots_55 rfl ?_
          refine v_putI (pc' := 60) (ji := 6) rfl fp_X5_63 kd_57 sf_X5_6 dX5_closeNots_57 rfl ?_
          refine w_return rfl dX5_closeNots_60 ?_
          exact ⟨m, rfl, ⟨m0, hall, fun h => by omega⟩, by rw [hA, hB, hD, hs, hd]⟩
        · skip
          refine w_aload_n (pc' := 18) (i := 0) (by rfl) (by rfl) dX5_closeNots_17 rfl ?_
          refine v_getM (pc' := 21) (q := 96) (ji := 5) rfl fg_X5_29 kd_57 hd9 dX5_closeNots_18 rfl ?_
          refine w_bipush (pc' := 23) (by decide) (by decide) dX5_closeNots_21 rfl ?_
          refine w_iconst (pc' := 24) (by decide) dX5_closeNots_23 rfl ?_
          refine w_iconst (pc' := 25) (by decide) dX5_closeNots_24 rfl ?_
          refine w_callV (pc' := 28) (d' := 0) (av := [gI 14, gI 0, gI 0]) mi_mX4_put lk_X5_168 rfl ci_X4 kd_96 rfl (Nat.le_of_ble_eq_true rfl) (Nat.le_of_ble_eq_true rfl) dX5_closeNots_25 rfl (kl96_put (σ := gUp (gUp (gUp (gUr (gUr (gUr σ 100 A) 101 B) 102 D) 96 15 s) 57 17 m) 57 14 dp) 14 0 0 (show 0 ≤ s ∧ s < 120 by omega)) (fun v_25 σ_25 q_25 => ?_)
          obtain ⟨rfl, rfl⟩ := q_25
          refine Wp.heq (σ' := gUp (gUp (gUp (gUr (gUr (gUr σ 100 (updI A s 14)) 101 (updI B s 0)) 102 (updI D s 0)) 96 15 (s + 1)) 57 17 m) 57 14 dp) ((congrArg (fun z => gUp z 96 15 (s + 1)) ((congrArg (fun z => gUp z 102 s 0) ((congrArg (fun z => gUp z 101 s 0) ((gUp_cu (by decide)).trans (congrArg (fun z => gUp z 57 14 dp) ((gUp_cu (by decide)).trans (congrArg (fun z => gUp z 57 17 m) ((gUp_cu (by decide)).trans (congrArg (fun z => gUp z 96 15 s) ((gUp_cr (by decide)).trans (congrArg (fun z => gUr z 102 D) ((gUp_cr (by decide)).trans (congrArg (fun z => gUr z 101 B) gUp_row))))))))))).trans ((gUp_cu (by decide)).trans (congrArg (fun z => gUp z 57 14 dp) ((gUp_cu (by decide)).trans (congrArg (fun z => gUp z 57 17 m) ((gUp_cu (by decide)).trans (congrArg (fun z => gUp z 96 15 s) ((gUp_cr (by decide)).trans (congrArg (fun z => gUr z 102 D) gUp_row)))))))))).trans ((gUp_cu (by decide)).trans (congrArg (fun z => gUp z 57 14 dp) ((gUp_cu (by decide)).trans (congrArg (fun z => gUp z 57 17 m) ((gUp_cu (by decide)).trans (congrArg (fun z => gUp z 96 15 s) gUp_row)))))))).trans ((gUp_cu (by decide)).trans (congrArg (fun z => gUp z 57 14 dp) ((gUp_cu (by decide)).trans (congrArg (fun z => gUp z 57 17 m) gUp_same))))) ?_
          show Wp _ _ _ _ _ _ []
          refine w_aload_n (pc' := 29) (i := 0) (by rfl) (by rfl) dX5_closeNots_28 rfl ?_
          refine w_dup (pc' := 30) dX5_closeNots_29 rfl ?_
          refine v_getI (pc' := 33) (ji := 17) rfl fg_X5_156 kd_57 dX5_closeNots_30 rfl ?_
          show Wp _ _ _ _ _ _ [gI m, gR 57]
          refine w_iconst (pc' := 34) (by decide) dX5_closeNots_33 rfl ?_
          refine v_isub (pc' := 35) (by omega) dX5_closeNots_34 rfl ?_
          refine v_putI (pc' := 38) (ji := 17) rfl fp_X5_156 kd_57 sf_X5_17 dX5_closeNots_35 rfl ?_
          refine Wp.heq (σ' := gUp (gUp (gUp (gUr (gUr (gUr σ 100 (updI A s 14)) 101 (updI B s 0)) 102 (updI D s 0)) 96 15 (s + 1)) 57 17 (m - 1)) 57 14 dp) ((gUp_ci (by decide)).trans (congrArg (fun z => gUp z 57 14 dp) gUp_same)) ?_
          refine w_aload_n (pc' := 39) (i := 0) (by rfl) (by rfl) dX5_closeNots_38 rfl ?_
          refine w_dup (pc' := 40) dX5_closeNots_39 rfl ?_
          refine v_getI (pc' := 43) (ji := 14) rfl fg_X5_150 kd_57 dX5_closeNots_40 rfl ?_
          show Wp _ _ _ _ _ _ [gI dp, gR 57]
          refine w_iconst (pc' := 44) (by decide) dX5_closeNots_43 rfl ?_
          refine v_isub (pc' := 45) (by omega) dX5_closeNots_44 rfl ?_
          refine v_putI (pc' := 48) (ji := 14) rfl fp_X5_150 kd_57 sf_X5_14 dX5_closeNots_45 rfl ?_
          refine Wp.heq (σ' := gUp (gUp (gUp (gUr (gUr (gUr σ 100 (updI A s 14)) 101 (updI B s 0)) 102 (updI D s 0)) 96 15 (s + 1)) 57 17 (m - 1)) 57 14 (dp - 1)) gUp_same ?_
          refine v_iinc (pc' := 51) (x := i) (ls' := [gR 57, gI (i + 1)]) (by omega) (by decide) (by rfl) (by rfl) dX5_closeNots_48 rfl ?_
          refine w_goto (pc' := 2) dX5_closeNots_51 rfl ?_
          exact ih_2 _ (by omega) (i + 1) (m - 1) (s + 1) (dp - 1) (updI A s 14) (updI B s 0) (updI D s 0) rfl (by omega) (by omega) (by omega) (by omega) (by intro k a b; by_cases e : k = m - 1; (rw [e]; omega); exact hall k (by omega) b) (by rw [hA, show s = (σ 96 15) + ((σ 57 17) - m) from hs, pfl_s (by omega), show (σ 57 17) - m + 1 = (σ 57 17) - (m - 1) by omega]) (by rw [hB, show s = (σ 96 15) + ((σ 57 17) - m) from hs, pfl_s (by omega), show (σ 57 17) - m + 1 = (σ 57 17) - (m - 1) by omega]) (by rw [hD, show s = (σ 96 15) + ((σ 57 17) - m) from hs, pfl_s (by omega), show (σ 57 17) - m + 1 = (σ 57 17) - (m - 1) by omega])
  refine Wp.heq (σ' := gUp (gUp (gUp (gUr (gUr (gUr σ 100 (σ 100)) 101 (σ 101)) 102 (σ 102)) 96 15 (σ 96 15)) 57 17 (σ 57 17)) 57 14 (σ 57 14)) rowsN96 ?_
  exact hl_2 _ 0 (σ 57 17) (σ 96 15) (σ 57 14) (σ 100) (σ 101) (σ 102) rfl (by omega) (by omega) (by omega) (by omega) (by intro k a b; omega) (by rw [Int.sub_self]; exact pfl_0.symm) (by rw [Int.sub_self]; exact pfl_0.symm) (by rw [Int.sub_self]; exact pfl_0.symm)
theorem rowsN103 {σ : gH} : σ = gUp (gUp (gUp (gUr (gUr (gUr σ 107 (σ 107)) 108 (σ 108)) 109 (σ 109)) 103 15 (σ 103 15)) 57 17 (σ 57 17)) 57 14 (σ 57 14) := by
  rw [show gUr σ 107 (σ 107) = σ from gUr_id, show gUr σ 108 (σ 108) = σ from gUr_id, show gUr σ 109 (σ 109) = σ from gUr_id, show gUp σ 103 15 (σ 103 15) = σ from gUp_id, show gUp σ 57 17 (σ 57 17) = σ from gUp_id, show gUp σ 57 14 (σ 57 14) = σ from gUp_id]
theorem kl103_closeNots {σ : gH} (hd : σ 57 5 = 103) (ht : 0 ≤ (σ 57 17) ∧ (σ 57 17) ≤ 64) (hs0 : 0 ≤ (σ 103 15) ∧ (σ 103 15) + (σ 57 17) ≤ 120) (hdp : -1000 ≤ (σ 57 14) ∧ (σ 57 14) ≤ 1000) : Mt mX5_closeNots 1 [gR 57] σ (fun v σ' => ∃ m, v = gX 1 ∧ NTS (σ 67) 14 (σ 57 17) m ∧ σ' = gUp (gUp (gUp (gUp (gUr (gUr (gUr σ 107 (pfl (σ 107) (σ 103 15) ((σ 57 17) - m) 14)) 108 (pfl (σ 108) (σ 103 15) ((σ 57 17) - m) 0)) 109 (pfl (σ 109) (σ 103 15) ((σ 57 17) - m) 0)) 103 15 ((σ 103 15) + ((σ 57 17) - m))) 57 17 m) 57 14 ((σ 57 14) - ((σ 57 17) - m))) 57 6 7) := by
  refine Mt.walk (ls := [gR 57, gX 1]) pn_X5 rfl (fun _ _ h => by obtain ⟨_, h, _⟩ := h; cases h) (Nat.le_of_ble_eq_true rfl) rfl ?_
  have hd9 := hd
  refine w_iconst (pc' := 1) (by decide) dX5_closeNots_0 rfl ?_
  refine w_istore_n (pc' := 2) (i := 1) (ls' := [gR 57, gI 0]) (by rfl) (by decide) (by rfl) dX5_closeNots_1 rfl ?_
  have hl_2 : ∀ (mm : Nat) (i m s dp : Int) (A B D : Int → Int), m.toNat = mm → (0 ≤ m ∧ m ≤ (σ 57 17)) → (i = (σ 57 17) - m) → (s = (σ 103 15) + ((σ 57 17) - m)) → (dp = (σ 57 14) - ((σ 57 17) - m)) → (∀ k, m ≤ k → k < (σ 57 17) → σ 67 k = 14) → (A = pfl (σ 107) (σ 103 15) ((σ 57 17) - m) 14) → (B = pfl (σ 108) (σ 103 15) ((σ 57 17) - m) 0) → (D = pfl (σ 109) (σ 103 15) ((σ 57 17) - m) 0) → Wp mX5_closeNots 1 (fun v σ' => ∃ m, v = gX 1 ∧ NTS (σ 67) 14 (σ 57 17) m ∧ σ' = gUp (gUp (gUp (gUp (gUr (gUr (gUr σ 107 (pfl (σ 107) (σ 103 15) ((σ 57 17) - m) 14)) 108 (pfl (σ 108) (σ 103 15) ((σ 57 17) - m) 0)) 109 (pfl (σ 109) (σ 103 15) ((σ 57 17) - m) 0)) 103 15 ((σ 103 15) + ((σ 57 17) - m))) 57 17 m) 57 14 ((σ 57 14) - ((σ 57 17) - m))) 57 6 7) (gUp (gUp (gUp (gUr (gUr (gUr σ 107 A) 108 B) 109 D) 103 15 s) 57 17 m) 57 14 dp) 2 [gR 57, gI i] [] := by
    intro m_2
    induction m_2 using Nat.strongRecOn with
    | _ m_2 ih_2 =>
      intro i m s dp A B D hmeas_2 m0 hi hs hd hall hA hB hD
      have hl := LWT_in (σ 67) m
      refine w_iload_n (pc' := 3) (i := 1) (by rfl) (by rfl) dX5_closeNots_2 rfl ?_
      refine w_bipush (pc' := 5) (by decide) (by decide) dX5_closeNots_3 rfl ?_
      refine w_icmp_ge (pc' := 8) (t := 54) dX5_closeNots_5 rfl rfl (fun c_5 => ?_) (fun c_5 => ?_)
      · skip
        refine w_aload_n (pc' := 55) (i := 0) (by rfl) (by rfl) dX5_closeNots_54 rfl ?_
        refine w_bipush (pc' := 57) (by decide) (by decide) dX5_closeNots_55 rfl ?_
        refine v_putI (pc' := 60) (ji := 6) rfl fp_X5_63 kd_57 sf_X5_6 dX5_closeNots_57 rfl ?_
        refine w_return rfl dX5_closeNots_60 ?_
        exact ⟨m, rfl, ⟨m0, hall, fun h => by omega⟩, by rw [hA, hB, hD, hs, hd]⟩
      · skip
        refine w_aload_n (pc' := 9) (i := 0) (by rfl) (by rfl) dX5_closeNots_8 rfl ?_
        refine v_callVE (pc' := 12) (st' := [gI (LWT (σ 67) m)]) (d' := 0) (av := []) mi_mX5_lastWaiting lk_X5_181 rfl ci_X5 kd_57 rfl (Nat.le_of_ble_eq_true rfl) (Nat.le_of_ble_eq_true rfl) dX5_closeNots_9 rfl rfl (kl_lastWaiting (σ := gUp (gUp (gUp (gUr (gUr (gUr σ 107 A) 108 B) 109 D) 103 15 s) 57 17 m) 57 14 dp) (show 0 ≤ m ∧ m ≤ 64 by omega)) ?_
        refine w_bipush (pc' := 14) (by decide) (by decide) dX5_closeNots_12 rfl ?_
        refine w_icmp_ne (pc' := 17) (t := 54) dX5_closeNots_14 rfl rfl (fun c_14 => ?_) (fun c_14 => ?_)
        · skip
          refine w_aload_n (pc' := 55) (i := 0) (by rfl) (by rfl) dX5_closeNots_54 rfl ?_
          refine w_bipush (pc' := 57) (by decide) (by decide) dX5_closeNots_55 rfl ?_
          refine v_putI (pc' := 60) (ji := 6) rfl fp_X5_63 kd_57 sf_X5_6 dX5_closeNots_57 rfl ?_
          refine w_return rfl dX5_closeNots_60 ?_
          exact ⟨m, rfl, ⟨m0, hall, fun h => by omega⟩, by rw [hA, hB, hD, hs, hd]⟩
        · skip
          refine w_aload_n (pc' := 18) (i := 0) (by rfl) (by rfl) dX5_closeNots_17 rfl ?_
          refine v_getM (pc' := 21) (q := 103) (ji := 5) rfl fg_X5_29 kd_57 hd9 dX5_closeNots_18 rfl ?_
          refine w_bipush (pc' := 23) (by decide) (by decide) dX5_closeNots_21 rfl ?_
          refine w_iconst (pc' := 24) (by decide) dX5_closeNots_23 rfl ?_
          refine w_iconst (pc' := 25) (by decide) dX5_closeNots_24 rfl ?_
          refine w_callV (pc' := 28) (d' := 0) (av := [gI 14, gI 0, gI 0]) mi_mX4_put lk_X5_168 rfl ci_X4 kd_103 rfl (Nat.le_of_ble_eq_true rfl) (Nat.le_of_ble_eq_true rfl) dX5_closeNots_25 rfl (kl103_put (σ := gUp (gUp (gUp (gUr (gUr (gUr σ 107 A) 108 B) 109 D) 103 15 s) 57 17 m) 57 14 dp) 14 0 0 (show 0 ≤ s ∧ s < 120 by omega)) (fun v_25 σ_25 q_25 => ?_)
          obtain ⟨rfl, rfl⟩ := q_25
          refine Wp.heq (σ' := gUp (gUp (gUp (gUr (gUr (gUr σ 107 (updI A s 14)) 108 (updI B s 0)) 109 (updI D s 0)) 103 15 (s + 1)) 57 17 m) 57 14 dp) ((congrArg (fun z => gUp z 103 15 (s + 1)) ((congrArg (fun z => gUp z 109 s 0) ((congrArg (fun z => gUp z 108 s 0) ((gUp_cu (by decide)).trans (congrArg (fun z => gUp z 57 14 dp) ((gUp_cu (by decide)).trans (congrArg (fun z => gUp z 57 17 m) ((gUp_cu (by decide)).trans (congrArg (fun z => gUp z 103 15 s) ((gUp_cr (by decide)).trans (congrArg (fun z => gUr z 109 D) ((gUp_cr (by decide)).trans (congrArg (fun z => gUr z 108 B) gUp_row))))))))))).trans ((gUp_cu (by decide)).trans (congrArg (fun z => gUp z 57 14 dp) ((gUp_cu (by decide)).trans (congrArg (fun z => gUp z 57 17 m) ((gUp_cu (by decide)).trans (congrArg (fun z => gUp z 103 15 s) ((gUp_cr (by decide)).trans (congrArg (fun z => gUr z 109 D) gUp_row)))))))))).trans ((gUp_cu (by decide)).trans (congrArg (fun z => gUp z 57 14 dp) ((gUp_cu (by decide)).trans (congrArg (fun z => gUp z 57 17 m) ((gUp_cu (by decide)).trans (congrArg (fun z => gUp z 103 15 s) gUp_row)))))))).trans ((gUp_cu (by decide)).trans (congrArg (fun z => gUp z 57 14 dp) ((gUp_cu (by decide)).trans (congrArg (fun z => gUp z 57 17 m) gUp_same))))) ?_
          show Wp _ _ _ _ _ _ []
          refine w_aload_n (pc' := 29) (i := 0) (by rfl) (by rfl) dX5_closeNots_28 rfl ?_
          refine w_dup (pc' := 30) dX5_closeNots_29 rfl ?_
          refine v_getI (pc' := 33) (ji := 17) rfl fg_X5_156 kd_57 dX5_closeNots_30 rfl ?_
          show Wp _ _ _ _ _ _ [gI m, gR 57]
          refine w_iconst (pc' := 34) (by decide) dX5_closeNots_33 rfl ?_
          refine v_isub (pc' := 35) (by omega) dX5_closeNots_34 rfl ?_
          refine v_putI (pc' := 38) (ji := 17) rfl fp_X5_156 kd_57 sf_X5_17 dX5_closeNots_35 rfl ?_
          refine Wp.heq (σ' := gUp (gUp (gUp (gUr (gUr (gUr σ 107 (updI A s 14)) 108 (updI B s 0)) 109 (updI D s 0)) 103 15 (s + 1)) 57 17 (m - 1)) 57 14 dp) ((gUp_ci (by decide)).trans (congrArg (fun z => gUp z 57 14 dp) gUp_same)) ?_
          refine w_aload_n (pc' := 39) (i := 0) (by rfl) (by rfl) dX5_closeNots_38 rfl ?_
          refine w_dup (pc' := 40) dX5_closeNots_39 rfl ?_
          refine v_getI (pc' := 43) (ji := 14) rfl fg_X5_150 kd_57 dX5_closeNots_40 rfl ?_
          show Wp _ _ _ _ _ _ [gI dp, gR 57]
          refine w_iconst (pc' := 44) (by decide) dX5_closeNots_43 rfl ?_
          refine v_isub (pc' := 45) (by omega) dX5_closeNots_44 rfl ?_
          refine v_putI (pc' := 48) (ji := 14) rfl fp_X5_150 kd_57 sf_X5_14 dX5_closeNots_45 rfl ?_
          refine Wp.heq (σ' := gUp (gUp (gUp (gUr (gUr (gUr σ 107 (updI A s 14)) 108 (updI B s 0)) 109 (updI D s 0)) 103 15 (s + 1)) 57 17 (m - 1)) 57 14 (dp - 1)) gUp_same ?_
          refine v_iinc (pc' := 51) (x := i) (ls' := [gR 57, gI (i + 1)]) (by omega) (by decide) (by rfl) (by rfl) dX5_closeNots_48 rfl ?_
          refine w_goto (pc' := 2) dX5_closeNots_51 rfl ?_
          exact ih_2 _ (by omega) (i + 1) (m - 1) (s + 1) (dp - 1) (updI A s 14) (updI B s 0) (updI D s 0) rfl (by omega) (by omega) (by omega) (by omega) (by intro k a b; by_cases e : k = m - 1; (rw [e]; omega); exact hall k (by omega) b) (by rw [hA, show s = (σ 103 15) + ((σ 57 17) - m) from hs, pfl_s (by omega), show (σ 57 17) - m + 1 = (σ 57 17) - (m - 1) by omega]) (by rw [hB, show s = (σ 103 15) + ((σ 57 17) - m) from hs, pfl_s (by omega), show (σ 57 17) - m + 1 = (σ 57 17) - (m - 1) by omega]) (by rw [hD, show s = (σ 103 15) + ((σ 57 17) - m) from hs, pfl_s (by omega), show (σ 57 17) - m + 1 = (σ 57 17) - (m - 1) by omega])
  refine Wp.heq (σ' := gUp (gUp (gUp (gUr (gUr (gUr σ 107 (σ 107)) 108 (σ 108)) 109 (σ 109)) 103 15 (σ 103 15)) 57 17 (σ 57 17)) 57 14 (σ 57 14)) rowsN103 ?_
  exact hl_2 _ 0 (σ 57 17) (σ 103 15) (σ 57 14) (σ 107) (σ 108) (σ 109) rfl (by omega) (by omega) (by omega) (by omega) (by intro k a b; omega) (by rw [Int.sub_self]; exact pfl_0.symm) (by rw [Int.sub_self]; exact pfl_0.symm) (by rw [Int.sub_self]; exact pfl_0.symm)
