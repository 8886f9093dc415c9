/-! the class reads a law: links that wait (gen/mod_lw3.py) -/
/-- n marks behind place a of a row: those that waited, the last first -/
def rvf (R : Int → Int) (a n : Int) (W : Int → Int) (t : Int) : Int → Int := fun j => if a ≤ j ∧ j < a + n then W (t - 1 - (j - a)) else R j
theorem rvf_0 {R W : Int → Int} {a t : Int} : rvf R a 0 W t = R := funext fun j => if_neg (by omega)
theorem rvf_s {R W : Int → Int} {a n t : Int} (h : 0 ≤ n) : updI (rvf R a n W t) (a + n) (W (t - 1 - n)) = rvf R a (n + 1) W t := funext fun j => by
  unfold updI rvf
  by_cases c : j = a + n
  · rw [if_pos c, if_pos (by omega), show t - 1 - (j - a) = t - 1 - n by omega]
  · rw [if_neg c]
    by_cases d : a ≤ j ∧ j < a + n
    · rw [if_pos d, if_pos (by omega)]
    · rw [if_neg d, if_neg (by omega)]
/-- from m on all that waits are links that bind as close as x, and what is below isn't one -/
def LKS (W : Int → Int) (x n m : Int) : Prop := (0 ≤ m ∧ m ≤ n) ∧ (∀ i, m ≤ i → i < n → W i = 15 ∨ W i = x) ∧ (0 < m → W (m - 1) ≠ 15 ∧ W (m - 1) ≠ x)
theorem rowsL68 {σ : gH} : σ = gUp (gUp (gUr (gUr (gUr σ 72 (σ 72)) 73 (σ 73)) 74 (σ 74)) 68 15 (σ 68 15)) 57 17 (σ 57 17) := by
  rw [show gUr σ 72 (σ 72) = σ from gUr_id, show gUr σ 73 (σ 73) = σ from gUr_id, show gUr σ 74 (σ 74) = σ from gUr_id, show gUp σ 68 15 (σ 68 15) = σ from gUp_id, show gUp σ 57 17 (σ 57 17) = σ from gUp_id]
theorem kl68_closeLinks {σ : gH} (hd : σ 57 5 = 68) (w : Int) (hw : 0 ≤ w) (ht : 0 ≤ (σ 57 17) ∧ (σ 57 17) ≤ 64) (hs0 : 0 ≤ (σ 68 15) ∧ (σ 68 15) + (σ 57 17) ≤ 120) : Mt mX5_closeLinks 1 [gR 57, gI w] σ (fun v σ' => ∃ m, v = gX 1 ∧ LKS (σ 67) w (σ 57 17) m ∧ σ' = gUp (gUp (gUr (gUr (gUr σ 72 (rvf (σ 72) (σ 68 15) ((σ 57 17) - m) (σ 67) (σ 57 17))) 73 (pfl (σ 73) (σ 68 15) ((σ 57 17) - m) 0)) 74 (pfl (σ 74) (σ 68 15) ((σ 57 17) - m) 0)) 68 15 ((σ 68 15) + ((σ 57 17) - m))) 57 17 m) := by
  refine Mt.walk (ls := [gR 57, gI w, gX 1]) pn_X5 rfl (fun _ _ h => by obtain ⟨_, h, _⟩ := h; cases h) (Nat.le_of_ble_eq_true rfl) rfl ?_
  refine w_iconst (pc' := 1) (by decide) dX5_closeLinks_0 rfl ?_
  refine w_istore_n (pc' := 2) (i := 2) (ls' := [gR 57, gI w, gI 0]) (by rfl) (by decide) (by rfl) dX5_closeLinks_1 rfl ?_
  have hl_2 : ∀ (mm : Nat) (i m s : Int) (A B D : Int → Int), m.toNat = mm → (0 ≤ m ∧ m ≤ (σ 57 17)) → (i = (σ 57 17) - m) → (s = (σ 68 15) + ((σ 57 17) - m)) → (∀ k, m ≤ k → k < (σ 57 17) → σ 67 k = 15 ∨ σ 67 k = w) → (A = rvf (σ 72) (σ 68 15) ((σ 57 17) - m) (σ 67) (σ 57 17)) → (B = pfl (σ 73) (σ 68 15) ((σ 57 17) - m) 0) → (D = pfl (σ 74) (σ 68 15) ((σ 57 17) - m) 0) → Wp mX5_closeLinks 1 (fun v σ' => ∃ m, v = gX 1 ∧ LKS (σ 67) w (σ 57 17) m ∧ σ' = gUp (gUp (gUr (gUr (gUr σ 72 (rvf (σ 72) (σ 68 15) ((σ 57 17) - m) (σ 67) (σ 57 17))) 73 (pfl (σ 73) (σ 68 15) ((σ 57 17) - m) 0)) 74 (pfl (σ 74) (σ 68 15) ((σ 57 17) - m) 0)) 68 15 ((σ 68 15) + ((σ 57 17) - m))) 57 17 m) (gUp (gUp (gUr (gUr (gUr σ 72 A) 73 B) 74 D) 68 15 s) 57 17 m) 2 [gR 57, gI w, gI i] [] := by
    intro m_2
    induction m_2 using Nat.strongRecOn with
    | _ m_2 ih_2 =>
      intro i m s A B D hmeas_2 m0 hi hs hall hA hB hD
      have hl : ∀ _ : Unit, _ := fun _ => LWT_in (σ 67) m
      refine w_iload_n (pc' := 3) (i := 2) (by rfl) (by rfl) dX5_closeLinks_2 rfl ?_
      refine w_bipush (pc' := 5) (by decide) (by decide) dX5_closeLinks_3 rfl ?_
      refine w_icmp_ge (pc' := 8) (t := 54) dX5_closeLinks_5 rfl rfl (fun c_5 => ?_) (fun c_5 => ?_)
      · skip
        refine w_return rfl dX5_closeLinks_54 ?_
        have h9 := hl ()
        exact ⟨m, rfl, ⟨m0, hall, fun h => by omega⟩, by rw [hA, hB, hD, hs]⟩
      · skip
        refine w_aload_n (pc' := 9) (i := 0) (by rfl) (by rfl) dX5_closeLinks_8 rfl ?_
        refine v_callVE (pc' := 12) (st' := [gI (LWT (σ 67) m)]) (d' := 0) (av := []) mi_mX5_lastWaiting lk_X5_181 rfl ci_X5 kd_57 rfl (Nat.le_of_ble_eq_true rfl) (Nat.le_of_ble_eq_true rfl) dX5_closeLinks_9 rfl rfl (kl_lastWaiting (σ := gUp (gUp (gUr (gUr (gUr σ 72 A) 73 B) 74 D) 68 15 s) 57 17 m) (show 0 ≤ m ∧ m ≤ 64 by omega)) ?_
        refine w_bipush (pc' := 14) (by decide) (by decide) dX5_closeLinks_12 rfl ?_
        refine w_icmp_eq (pc' := 17) (t := 25) dX5_closeLinks_14 rfl rfl (fun c_14 => ?_) (fun c_14 => ?_)
        · skip
          refine w_aload_n (pc' := 26) (i := 0) (by rfl) (by rfl) dX5_closeLinks_25 rfl ?_
          refine v_getM (pc' := 29) (q := 68) (ji := 5) rfl fg_X5_29 kd_57 hd dX5_closeLinks_26 rfl ?_
          refine w_aload_n (pc' := 30) (i := 0) (by rfl) (by rfl) dX5_closeLinks_29 rfl ?_
          refine v_callVE (pc' := 33) (st' := [gI (LWT (σ 67) m), gR 68]) (d' := 0) (av := []) mi_mX5_lastWaiting lk_X5_181 rfl ci_X5 kd_57 rfl (Nat.le_of_ble_eq_true rfl) (Nat.le_of_ble_eq_true rfl) dX5_closeLinks_30 rfl rfl (kl_lastWaiting (σ := gUp (gUp (gUr (gUr (gUr σ 72 A) 73 B) 74 D) 68 15 s) 57 17 m) (show 0 ≤ m ∧ m ≤ 64 by omega)) ?_
          refine w_iconst (pc' := 34) (by decide) dX5_closeLinks_33 rfl ?_
          refine w_iconst (pc' := 35) (by decide) dX5_closeLinks_34 rfl ?_
          refine w_callV (pc' := 38) (d' := 0) (av := [gI (LWT (σ 67) m), gI 0, gI 0]) mi_mX4_put lk_X5_168 rfl ci_X4 kd_68 rfl (Nat.le_of_ble_eq_true rfl) (Nat.le_of_ble_eq_true rfl) dX5_closeLinks_35 rfl (kl68_put (σ := gUp (gUp (gUr (gUr (gUr σ 72 A) 73 B) 74 D) 68 15 s) 57 17 m) (LWT (σ 67) m) 0 0 (show 0 ≤ s ∧ s < 120 by first | omega | (have := hl (); omega))) (fun v_35 σ_35 q_35 => ?_)
          obtain ⟨rfl, rfl⟩ := q_35
          refine Wp.heq (σ' := gUp (gUp (gUr (gUr (gUr σ 72 (updI A s (LWT (σ 67) m))) 73 (updI B s 0)) 74 (updI D s 0)) 68 15 (s + 1)) 57 17 m) ((congrArg (fun z => gUp z 68 15 (s + 1)) ((congrArg (fun z => gUp z 74 s 0) ((congrArg (fun z => gUp z 73 s 0) ((gUp_cu (by decide)).trans (congrArg (fun z => gUp z 57 17 m) ((gUp_cu (by decide)).trans (congrArg (fun z => gUp z 68 15 s) ((gUp_cr (by decide)).trans (congrArg (fun z => gUr z 74 D) ((gUp_cr (by decide)).trans (congrArg (fun z => gUr z 73 B) gUp_row))))))))).trans ((gUp_cu (by decide)).trans (congrArg (fun z => gUp z 57 17 m) ((gUp_cu (by decide)).trans (congrArg (fun z => gUp z 68 15 s) ((gUp_cr (by decide)).trans (congrArg (fun z => gUr z 74 D) gUp_row)))))))).trans ((gUp_cu (by decide)).trans (congrArg (fun z => gUp z 57 17 m) ((gUp_cu (by decide)).trans (congrArg (fun z => gUp z 68 15 s) gUp_row)))))).trans ((gUp_cu (by decide)).trans (congrArg (fun z => gUp z 57 17 m) gUp_same))) ?_
          show Wp _ _ _ _ _ _ []
          refine w_aload_n (pc' := 39) (i := 0) (by rfl) (by rfl) dX5_closeLinks_38 rfl ?_
          refine w_dup (pc' := 40) dX5_closeLinks_39 rfl ?_
          refine v_getI (pc' := 43) (ji := 17) rfl fg_X5_156 kd_57 dX5_closeLinks_40 rfl ?_
          show Wp _ _ _ _ _ _ [gI m, gR 57]
          refine w_iconst (pc' := 44) (by decide) dX5_closeLinks_43 rfl ?_
          refine v_isub (pc' := 45) (by (first | omega | (have := hl (); omega))) dX5_closeLinks_44 rfl ?_
          refine v_putI (pc' := 48) (ji := 17) rfl fp_X5_156 kd_57 sf_X5_17 dX5_closeLinks_45 rfl ?_
          refine Wp.heq (σ' := gUp (gUp (gUr (gUr (gUr σ 72 (updI A s (LWT (σ 67) m))) 73 (updI B s 0)) 74 (updI D s 0)) 68 15 (s + 1)) 57 17 (m - 1)) gUp_same ?_
          refine v_iinc (pc' := 51) (x := i) (ls' := [gR 57, gI w, gI (i + 1)]) (by (first | omega | (have := hl (); omega))) (by decide) (by rfl) (by rfl) dX5_closeLinks_48 rfl ?_
          refine w_goto (pc' := 2) dX5_closeLinks_51 rfl ?_
          exact ih_2 _ (by have := hl (); omega) (i + 1) (m - 1) (s + 1) (updI A s (LWT (σ 67) m)) (updI B s 0) (updI D s 0) rfl (by have := hl (); omega) (by omega) (by omega) (by have h9 := hl (); intro k a b; by_cases e : k = m - 1; (rw [e]; omega); exact hall k (by omega) b) (by have h9 := hl (); rw [hA, show s = (σ 68 15) + ((σ 57 17) - m) from hs, show LWT (σ 67) m = σ 67 ((σ 57 17) - 1 - ((σ 57 17) - m)) by (rw [show (σ 57 17) - 1 - ((σ 57 17) - m) = m - 1 by omega]; omega), rvf_s (by omega), show (σ 57 17) - m + 1 = (σ 57 17) - (m - 1) by omega]) (by rw [hB, show s = (σ 68 15) + ((σ 57 17) - m) from hs, pfl_s (by omega), show (σ 57 17) - m + 1 = (σ 57 17) - (m - 1) by omega]) (by rw [hD, show s = (σ 68 15) + ((σ 57 17) - m) from hs, pfl_s (by omega), show (σ 57 17) - m + 1 = (σ 57 17) - (m - 1) by omega])
        · skip
          refine w_aload_n (pc' := 18) (i := 0) (by rfl) (by rfl) dX5_closeLinks_17 rfl ?_
          refine v_callVE (pc' := 21) (st' := [gI (LWT (σ 67) m)]) (d' := 0) (av := []) mi_mX5_lastWaiting lk_X5_181 rfl ci_X5 kd_57 rfl (Nat.le_of_ble_eq_true rfl) (Nat.le_of_ble_eq_true rfl) dX5_closeLinks_18 rfl rfl (kl_lastWaiting (σ := gUp (gUp (gUr (gUr (gUr σ 72 A) 73 B) 74 D) 68 15 s) 57 17 m) (show 0 ≤ m ∧ m ≤ 64 by omega)) ?_
          refine w_iload_n (pc' := 22) (i := 1) (by rfl) (by rfl) dX5_closeLinks_21 rfl ?_
          refine w_icmp_ne (pc' := 25) (t := 54) dX5_closeLinks_22 rfl rfl (fun c_22 => ?_) (fun c_22 => ?_)
          · skip
            refine w_return rfl dX5_closeLinks_54 ?_
            have h9 := hl ()
            exact ⟨m, rfl, ⟨m0, hall, fun h => by omega⟩, by rw [hA, hB, hD, hs]⟩
          · skip
            refine w_aload_n (pc' := 26) (i := 0) (by rfl) (by rfl) dX5_closeLinks_25 rfl ?_
            refine v_getM (pc' := 29) (q := 68) (ji := 5) rfl fg_X5_29 kd_57 hd dX5_closeLinks_26 rfl ?_
            refine w_aload_n (pc' := 30) (i := 0) (by rfl) (by rfl) dX5_closeLinks_29 rfl ?_
            refine v_callVE (pc' := 33) (st' := [gI (LWT (σ 67) m), gR 68]) (d' := 0) (av := []) mi_mX5_lastWaiting lk_X5_181 rfl ci_X5 kd_57 rfl (Nat.le_of_ble_eq_true rfl) (Nat.le_of_ble_eq_true rfl) dX5_closeLinks_30 rfl rfl (kl_lastWaiting (σ := gUp (gUp (gUr (gUr (gUr σ 72 A) 73 B) 74 D) 68 15 s) 57 17 m) (show 0 ≤ m ∧ m ≤ 64 by omega)) ?_
            refine w_iconst (pc' := 34) (by decide) dX5_closeLinks_33 rfl ?_
            refine w_iconst (pc' := 35) (by decide) dX5_closeLinks_34 rfl ?_
            refine w_callV (pc' := 38) (d' := 0) (av := [gI (LWT (σ 67) m), gI 0, gI 0]) mi_mX4_put lk_X5_168 rfl ci_X4 kd_68 rfl (Nat.le_of_ble_eq_true rfl) (Nat.le_of_ble_eq_true rfl) dX5_closeLinks_35 rfl (kl68_put (σ := gUp (gUp (gUr (gUr (gUr σ 72 A) 73 B) 74 D) 68 15 s) 57 17 m) (LWT (σ 67) m) 0 0 (show 0 ≤ s ∧ s < 120 by first | omega | (have := hl (); omega))) (fun v_35 σ_35 q_35 => ?_)
            obtain ⟨rfl, rfl⟩ := q_35
            refine Wp.heq (σ' := gUp (gUp (gUr (gUr (gUr σ 72 (updI A s (LWT (σ 67) m))) 73 (updI B s 0)) 74 (updI D s 0)) 68 15 (s + 1)) 57 17 m) ((congrArg (fun z => gUp z 68 15 (s + 1)) ((congrArg (fun z => gUp z 74 s 0) ((congrArg (fun z => gUp z 73 s 0) ((gUp_cu (by decide)).trans (congrArg (fun z => gUp z 57 17 m) ((gUp_cu (by decide)).trans (congrArg (fun z => gUp z 68 15 s) ((gUp_cr (by decide)).trans (congrArg (fun z => gUr z 74 D) ((gUp_cr (by decide)).trans (congrArg (fun z => gUr z 73 B) gUp_row))))))))).trans ((gUp_cu (by decide)).trans (congrArg (fun z => gUp z 57 17 m) ((gUp_cu (by decide)).trans (congrArg (fun z => gUp z 68 15 s) ((gUp_cr (by decide)).trans (congrArg (fun z => gUr z 74 D) gUp_row)))))))).trans ((gUp_cu (by decide)).trans (congrArg (fun z => gUp z 57 17 m) ((gUp_cu (by decide)).trans (congrArg (fun z => gUp z 68 15 s) gUp_row)))))).trans ((gUp_cu (by decide)).trans (congrArg (fun z => gUp z 57 17 m) gUp_same))) ?_
            show Wp _ _ _ _ _ _ []
            refine w_aload_n (pc' := 39) (i := 0) (by rfl) (by rfl) dX5_closeLinks_38 rfl ?_
            refine w_dup (pc' := 40) dX5_closeLinks_39 rfl ?_
            refine v_getI (pc' := 43) (ji := 17) rfl fg_X5_156 kd_57 dX5_closeLinks_40 rfl ?_
            show Wp _ _ _ _ _ _ [gI m, gR 57]
            refine w_iconst (pc' := 44) (by decide) dX5_closeLinks_43 rfl ?_
            refine v_isub (pc' := 45) (by (first | omega | (have := hl (); omega))) dX5_closeLinks_44 rfl ?_
            refine v_putI (pc' := 48) (ji := 17) rfl fp_X5_156 kd_57 sf_X5_17 dX5_closeLinks_45 rfl ?_
            refine Wp.heq (σ' := gUp (gUp (gUr (gUr (gUr σ 72 (updI A s (LWT (σ 67) m))) 73 (updI B s 0)) 74 (updI D s 0)) 68 15 (s + 1)) 57 17 (m - 1)) gUp_same ?_
            refine v_iinc (pc' := 51) (x := i) (ls' := [gR 57, gI w, gI (i + 1)]) (by (first | omega | (have := hl (); omega))) (by decide) (by rfl) (by rfl) dX5_closeLinks_48 rfl ?_
            refine w_goto (pc' := 2) dX5_closeLinks_51 rfl ?_
            exact ih_2 _ (by have := hl (); omega) (i + 1) (m - 1) (s + 1) (updI A s (LWT (σ 67) m)) (updI B s 0) (updI D s 0) rfl (by have := hl (); omega) (by omega) (by omega) (by have h9 := hl (); intro k a b; by_cases e : k = m - 1; (rw [e]; omega); exact hall k (by omega) b) (by have h9 := hl (); rw [hA, show s = (σ 68 15) + ((σ 57 17) - m) from hs, show LWT (σ 67) m = σ 67 ((σ 57 17) - 1 - ((σ 57 17) - m)) by (rw [show (σ 57 17) - 1 - ((σ 57 17) - m) = m - 1 by omega]; omega), rvf_s (by omega), show (σ 57 17) - m + 1 = (σ 57 17) - (m - 1) by omega]) (by rw [hB, show s = (σ 68 15) + ((σ 57 17) - m) from hs, pfl_s (by omega), show (σ 57 17) - m + 1 = (σ 57 17) - (m - 1) by omega]) (by rw [hD, show s = (σ 68 15) + ((σ 57 17) - m) from hs, pfl_s (by omega), show (σ 57 17) - m + 1 = (σ 57 17) - (m - 1) by omega])
  refine Wp.heq (σ' := gUp (gUp (gUr (gUr (gUr σ 72 (σ 72)) 73 (σ 73)) 74 (σ 74)) 68 15 (σ 68 15)) 57 17 (σ 57 17)) rowsL68 ?_
  exact hl_2 _ 0 (σ 57 17) (σ 68 15) (σ 72) (σ 73) (σ 74) rfl (by omega) (by omega) (by omega) (by intro k a b; omega) (by rw [Int.sub_self]; exact rvf_0.symm) (by rw [Int.sub_self]; exact pfl_0.symm) (by rw [Int.sub_self]; exact pfl_0.symm)
theorem rowsL75 {σ : gH} : σ = gUp (gUp (gUr (gUr (gUr σ 79 (σ 79)) 80 (σ 80)) 81 (σ 81)) 75 15 (σ 75 15)) 57 17 (σ 57 17) := by
  rw [show gUr σ 79 (σ 79) = σ from gUr_id, show gUr σ 80 (σ 80) = σ from gUr_id, show gUr σ 81 (σ 81) = σ from gUr_id, show gUp σ 75 15 (σ 75 15) = σ from gUp_id, show gUp σ 57 17 (σ 57 17) = σ from gUp_id]
theorem kl75_closeLinks {σ : gH} (hd : σ 57 5 = 75) (w : Int) (hw : 0 ≤ w) (ht : 0 ≤ (σ 57 17) ∧ (σ 57 17) ≤ 64) (hs0 : 0 ≤ (σ 75 15) ∧ (σ 75 15) + (σ 57 17) ≤ 120) : Mt mX5_closeLinks 1 [gR 57, gI w] σ (fun v σ' => ∃ m, v = gX 1 ∧ LKS (σ 67) w (σ 57 17) m ∧ σ' = gUp (gUp (gUr (gUr (gUr σ 79 (rvf (σ 79) (σ 75 15) ((σ 57 17) - m) (σ 67) (σ 57 17))) 80 (pfl (σ 80) (σ 75 15) ((σ 57 17) - m) 0)) 81 (pfl (σ 81) (σ 75 15) ((σ 57 17) - m) 0)) 75 15 ((σ 75 15) + ((σ 57 17) - m))) 57 17 m) := by
  refine Mt.walk (ls := [gR 57, gI w, gX 1]) pn_X5 rfl (fun _ _ h => by obtain ⟨_, h, _⟩ := h; cases h) (Nat.le_of_ble_eq_true rfl) rfl ?_
  refine w_iconst (pc' := 1) (by decide) dX5_closeLinks_0 rfl ?_
  refine w_istore_n (pc' := 2) (i := 2) (ls' := [gR 57, gI w, gI 0]) (by rfl) (by decide) (by rfl) dX5_closeLinks_1 rfl ?_
  have hl_2 : ∀ (mm : Nat) (i m s : Int) (A B D : Int → Int), m.toNat = mm → (0 ≤ m ∧ m ≤ (σ 57 17)) → (i = (σ 57 17) - m) → (s = (σ 75 15) + ((σ 57 17) - m)) → (∀ k, m ≤ k → k < (σ 57 17) → σ 67 k = 15 ∨ σ 67 k = w) → (A = rvf (σ 79) (σ 75 15) ((σ 57 17) - m) (σ 67) (σ 57 17)) → (B = pfl (σ 80) (σ 75 15) ((σ 57 17) - m) 0) → (D = pfl (σ 81) (σ 75 15) ((σ 57 17) - m) 0) → Wp mX5_closeLinks 1 (fun v σ' => ∃ m, v = gX 1 ∧ LKS (σ 67) w (σ 57 17) m ∧ σ' = gUp (gUp (gUr (gUr (gUr σ 79 (rvf (σ 79) (σ 75 15) ((σ 57 17) - m) (σ 67) (σ 57 17))) 80 (pfl (σ 80) (σ 75 15) ((σ 57 17) - m) 0)) 81 (pfl (σ 81) (σ 75 15) ((σ 57 17) - m) 0)) 75 15 ((σ 75 15) + ((σ 57 17) - m))) 57 17 m) (gUp (gUp (gUr (gUr (gUr σ 79 A) 80 B) 81 D) 75 15 s) 57 17 m) 2 [gR 57, gI w, gI i] [] := by
    intro m_2
    induction m_2 using Nat.strongRecOn with
    | _ m_2 ih_2 =>
      intro i m s A B D hmeas_2 m0 hi hs hall hA hB hD
      have hl : ∀ _ : Unit, _ := fun _ => LWT_in (σ 67) m
      refine w_iload_n (pc' := 3) (i := 2) (by rfl) (by rfl) dX5_closeLinks_2 rfl ?_
      refine w_bipush (pc' := 5) (by decide) (by decide) dX5_closeLinks_3 rfl ?_
      refine w_icmp_ge (pc' := 8) (t := 54) dX5_closeLinks_5 rfl rfl (fun c_5 => ?_) (fun c_5 => ?_)
      · skip
        refine w_return rfl dX5_closeLinks_54 ?_
        have h9 := hl ()
        exact ⟨m, rfl, ⟨m0, hall, fun h => by omega⟩, by rw [hA, hB, hD, hs]⟩
      · skip
        refine w_aload_n (pc' := 9) (i := 0) (by rfl) (by rfl) dX5_closeLinks_8 rfl ?_
        refine v_callVE (pc' := 12) (st' := [gI (LWT (σ 67) m)]) (d' := 0) (av := []) mi_mX5_lastWaiting lk_X5_181 rfl ci_X5 kd_57 rfl (Nat.le_of_ble_eq_true rfl) (Nat.le_of_ble_eq_true rfl) dX5_closeLinks_9 rfl rfl (kl_lastWaiting (σ := gUp (gUp (gUr (gUr (gUr σ 79 A) 80 B) 81 D) 75 15 s) 57 17 m) (show 0 ≤ m ∧ m ≤ 64 by omega)) ?_
        refine w_bipush (pc' := 14) (by decide) (by decide) dX5_closeLinks_12 rfl ?_
        refine w_icmp_eq (pc' := 17) (t := 25) dX5_closeLinks_14 rfl rfl (fun c_14 => ?_) (fun c_14 => ?_)
        · skip
          refine w_aload_n (pc' := 26) (i := 0) (by rfl) (by rfl) dX5_closeLinks_25 rfl ?_
          refine v_getM (pc' := 29) (q := 75) (ji := 5) rfl fg_X5_29 kd_57 hd dX5_closeLinks_26 rfl ?_
          refine w_aload_n (pc' := 30) (i := 0) (by rfl) (by rfl) dX5_closeLinks_29 rfl ?_
          refine v_callVE (pc' := 33) (st' := [gI (LWT (σ 67) m), gR 75]) (d' := 0) (av := []) mi_mX5_lastWaiting lk_X5_181 rfl ci_X5 kd_57 rfl (Nat.le_of_ble_eq_true rfl) (Nat.le_of_ble_eq_true rfl) dX5_closeLinks_30 rfl rfl (kl_lastWaiting (σ := gUp (gUp (gUr (gUr (gUr σ 79 A) 80 B) 81 D) 75 15 s) 57 17 m) (show 0 ≤ m ∧ m ≤ 64 by omega)) ?_
          refine w_iconst (pc' := 34) (by decide) dX5_closeLinks_33 rfl ?_
          refine w_iconst (pc' := 35) (by decide) dX5_closeLinks_34 rfl ?_
          refine w_callV (pc' := 38) (d' := 0) (av := [gI (LWT (σ 67) m), gI 0, gI 0]) mi_mX4_put lk_X5_168 rfl ci_X4 kd_75 rfl (Nat.le_of_ble_eq_true rfl) (Nat.le_of_ble_eq_true rfl) dX5_closeLinks_35 rfl (kl75_put (σ := gUp (gUp (gUr (gUr (gUr σ 79 A) 80 B) 81 D) 75 15 s) 57 17 m) (LWT (σ 67) m) 0 0 (show 0 ≤ s ∧ s < 120 by first | omega | (have := hl (); omega))) (fun v_35 σ_35 q_35 => ?_)
          obtain ⟨rfl, rfl⟩ := q_35
          refine Wp.heq (σ' := gUp (gUp (gUr (gUr (gUr σ 79 (updI A s (LWT (σ 67) m))) 80 (updI B s 0)) 81 (updI D s 0)) 75 15 (s + 1)) 57 17 m) ((congrArg (fun z => gUp z 75 15 (s + 1)) ((congrArg (fun z => gUp z 81 s 0) ((congrArg (fun z => gUp z 80 s 0) ((gUp_cu (by decide)).trans (congrArg (fun z => gUp z 57 17 m) ((gUp_cu (by decide)).trans (congrArg (fun z => gUp z 75 15 s) ((gUp_cr (by decide)).trans (congrArg (fun z => gUr z 81 D) ((gUp_cr (by decide)).trans (congrArg (fun z => gUr z 80 B) gUp_row))))))))).trans ((gUp_cu (by decide)).trans (congrArg (fun z => gUp z 57 17 m) ((gUp_cu (by decide)).trans (congrArg (fun z => gUp z 75 15 s) ((gUp_cr (by decide)).trans (congrArg (fun z => gUr z 81 D) gUp_row)))))))).trans ((gUp_cu (by decide)).trans (congrArg (fun z => gUp z 57 17 m) ((gUp_cu (by decide)).trans (congrArg (fun z => gUp z 75 15 s) gUp_row)))))).trans ((gUp_cu (by decide)).trans (congrArg (fun z => gUp z 57 17 m) gUp_same))) ?_
          show Wp _ _ _ _ _ _ []
          refine w_aload_n (pc' := 39) (i := 0) (by rfl) (by rfl) dX5_closeLinks_38 rfl ?_
          refine w_dup (pc' := 40) dX5_closeLinks_39 rfl ?_
          refine v_getI (pc' := 43) (ji := 17) rfl fg_X5_156 kd_57 dX5_closeLinks_40 rfl ?_
          show Wp _ _ _ _ _ _ [gI m, gR 57]
          refine w_iconst (pc' := 44) (by decide) dX5_closeLinks_43 rfl ?_
          refine v_isub (pc' := 45) (by (first | omega | (have := hl (); omega))) dX5_closeLinks_44 rfl ?_
          refine v_putI (pc' := 48) (ji := 17) rfl fp_X5_156 kd_57 sf_X5_17 dX5_closeLinks_45 rfl ?_
          refine Wp.heq (σ' := gUp (gUp (gUr (gUr (gUr σ 79 (updI A s (LWT (σ 67) m))) 80 (updI B s 0)) 81 (updI D s 0)) 75 15 (s + 1)) 57 17 (m - 1)) gUp_same ?_
          refine v_iinc (pc' := 51) (x := i) (ls' := [gR 57, gI w, gI (i + 1)]) (by (first | omega | (have := hl (); omega))) (by decide) (by rfl) (by rfl) dX5_closeLinks_48 rfl ?_
          refine w_goto (pc' := 2) dX5_closeLinks_51 rfl ?_
          exact ih_2 _ (by have := hl (); omega) (i + 1) (m - 1) (s + 1) (updI A s (LWT (σ 67) m)) (updI B s 0) (updI D s 0) rfl (by have := hl (); omega) (by omega) (by omega) (by have h9 := hl (); intro k a b; by_cases e : k = m - 1; (rw [e]; omega); exact hall k (by omega) b) (by have h9 := hl (); rw [hA, show s = (σ 75 15) + ((σ 57 17) - m) from hs, show LWT (σ 67) m = σ 67 ((σ 57 17) - 1 - ((σ 57 17) - m)) by (rw [show (σ 57 17) - 1 - ((σ 57 17) - m) = m - 1 by omega]; omega), rvf_s (by omega), show (σ 57 17) - m + 1 = (σ 57 17) - (m - 1) by omega]) (by rw [hB, show s = (σ 75 15) + ((σ 57 17) - m) from hs, pfl_s (by omega), show (σ 57 17) - m + 1 = (σ 57 17) - (m - 1) by omega]) (by rw [hD, show s = (σ 75 15) + ((σ 57 17) - m) from hs, pfl_s (by omega), show (σ 57 17) - m + 1 = (σ 57 17) - (m - 1) by omega])
        · skip
          refine w_aload_n (pc' := 18) (i := 0) (by rfl) (by rfl) dX5_closeLinks_17 rfl ?_
          refine v_callVE (pc' := 21) (st' := [gI (LWT (σ 67) m)]) (d' := 0) (av := []) mi_mX5_lastWaiting lk_X5_181 rfl ci_X5 kd_57 rfl (Nat.le_of_ble_eq_true rfl) (Nat.le_of_ble_eq_true rfl) dX5_closeLinks_18 rfl rfl (kl_lastWaiting (σ := gUp (gUp (gUr (gUr (gUr σ 79 A) 80 B) 81 D) 75 15 s) 57 17 m) (show 0 ≤ m ∧ m ≤ 64 by omega)) ?_
          refine w_iload_n (pc' := 22) (i := 1) (by rfl) (by rfl) dX5_closeLinks_21 rfl ?_
          refine w_icmp_ne (pc' := 25) (t := 54) dX5_closeLinks_22 rfl rfl (fun c_22 => ?_) (fun c_22 => ?_)
          · skip
            refine w_return rfl dX5_closeLinks_54 ?_
            have h9 := hl ()
            exact ⟨m, rfl, ⟨m0, hall, fun h => by omega⟩, by rw [hA, hB, hD, hs]⟩
          · skip
            refine w_aload_n (pc' := 26) (i := 0) (by rfl) (by rfl) dX5_closeLinks_25 rfl ?_
            refine v_getM (pc' := 29) (q := 75) (ji := 5) rfl fg_X5_29 kd_57 hd dX5_closeLinks_26 rfl ?_
            refine w_aload_n (pc' := 30) (i := 0) (by rfl) (by rfl) dX5_closeLinks_29 rfl ?_
            refine v_callVE (pc' := 33) (st' := [gI (LWT (σ 67) m), gR 75]) (d' := 0) (av := []) mi_mX5_lastWaiting lk_X5_181 rfl ci_X5 kd_57 rfl (Nat.le_of_ble_eq_true rfl) (Nat.le_of_ble_eq_true rfl) dX5_closeLinks_30 rfl rfl (kl_lastWaiting (σ := gUp (gUp (gUr (gUr (gUr σ 79 A) 80 B) 81 D) 75 15 s) 57 17 m) (show 0 ≤ m ∧ m ≤ 64 by omega)) ?_
            refine w_iconst (pc' := 34) (by decide) dX5_closeLinks_33 rfl ?_
            refine w_iconst (pc' := 35) (by decide) dX5_closeLinks_34 rfl ?_
            refine w_callV (pc' := 38) (d' := 0) (av := [gI (LWT (σ 67) m), gI 0, gI 0]) mi_mX4_put lk_X5_168 rfl ci_X4 kd_75 rfl (Nat.le_of_ble_eq_true rfl) (Nat.le_of_ble_eq_true rfl) dX5_closeLinks_35 rfl (kl75_put (σ := gUp (gUp (gUr (gUr (gUr σ 79 A) 80 B) 81 D) 75 15 s) 57 17 m) (LWT (σ 67) m) 0 0 (show 0 ≤ s ∧ s < 120 by first | omega | (have := hl (); omega))) (fun v_35 σ_35 q_35 => ?_)
            obtain ⟨rfl, rfl⟩ := q_35
            refine Wp.heq (σ' := gUp (gUp (gUr (gUr (gUr σ 79 (updI A s (LWT (σ 67) m))) 80 (updI B s 0)) 81 (updI D s 0)) 75 15 (s + 1)) 57 17 m) ((congrArg (fun z => gUp z 75 15 (s + 1)) ((congrArg (fun z => gUp z 81 s 0) ((congrArg (fun z => gUp z 80 s 0) ((gUp_cu (by decide)).trans (congrArg (fun z => gUp z 57 17 m) ((gUp_cu (by decide)).trans (congrArg (fun z => gUp z 75 15 s) ((gUp_cr (by decide)).trans (congrArg (fun z => gUr z 81 D) ((gUp_cr (by decide)).trans (congrArg (fun z => gUr z 80 B) gUp_row))))))))).trans ((gUp_cu (by decide)).trans (congrArg (fun z => gUp z 57 17 m) ((gUp_cu (by decide)).trans (congrArg (fun z => gUp z 75 15 s) ((gUp_cr (by decide)).trans (congrArg (fun z => gUr z 81 D) gUp_row)))))))).trans ((gUp_cu (by decide)).trans (congrArg (fun z => gUp z 57 17 m) ((gUp_cu (by decide)).trans (congrArg (fun z => gUp z 75 15 s) gUp_row)))))).trans ((gUp_cu (by decide)).trans (congrArg (fun z => gUp z 57 17 m) gUp_same))) ?_
            show Wp _ _ _ _ _ _ []
            refine w_aload_n (pc' := 39) (i := 0) (by rfl) (by rfl) dX5_closeLinks_38 rfl ?_
            refine w_dup (pc' := 40) dX5_closeLinks_39 rfl ?_
            refine v_getI (pc' := 43) (ji := 17) rfl fg_X5_156 kd_57 dX5_closeLinks_40 rfl ?_
            show Wp _ _ _ _ _ _ [gI m, gR 57]
            refine w_iconst (pc' := 44) (by decide) dX5_closeLinks_43 rfl ?_
            refine v_isub (pc' := 45) (by (first | omega | (have := hl (); omega))) dX5_closeLinks_44 rfl ?_
            refine v_putI (pc' := 48) (ji := 17) rfl fp_X5_156 kd_57 sf_X5_17 dX5_closeLinks_45 rfl ?_
            refine Wp.heq (σ' := gUp (gUp (gUr (gUr (gUr σ 79 (updI A s (LWT (σ 67) m))) 80 (updI B s 0)) 81 (updI D s 0)) 75 15 (s + 1)) 57 17 (m - 1)) gUp_same ?_
            refine v_iinc (pc' := 51) (x := i) (ls' := [gR 57, gI w, gI (i + 1)]) (by (first | omega | (have := hl (); omega))) (by decide) (by rfl) (by rfl) dX5_closeLinks_48 rfl ?_
            refine w_goto (pc' := 2) dX5_closeLinks_51 rfl ?_
            exact ih_2 _ (by have := hl (); omega) (i + 1) (m - 1) (s + 1) (updI A s (LWT (σ 67) m)) (updI B s 0) (updI D s 0) rfl (by have := hl (); omega) (by omega) (by omega) (by have h9 := hl (); intro k a b; by_cases e : k = m - 1; (rw [e]; omega); exact hall k (by omega) b) (by have h9 := hl (); rw [hA, show s = (σ 75 15) + ((σ 57 17) - m) from hs, show LWT (σ 67) m = σ 67 ((σ 57 17) - 1 - ((σ 57 17) - m)) by (rw [show (σ 57 17) - 1 - ((σ 57 17) - m) = m - 1 by omega]; omega), rvf_s (by omega), show (σ 57 17) - m + 1 = (σ 57 17) - (m - 1) by omega]) (by rw [hB, show s = (σ 75 15) + ((σ 57 17) - m) from hs, pfl_s (by omega), show (σ 57 17) - m + 1 = (σ 57 17) - (m - 1) by omega]) (by rw [hD, show s = (σ 75 15) + ((σ 57 17) - m) from hs, pfl_s (by omega), show (σ 57 17) - m + 1 = (σ 57 17) - (m - 1) by omega])
  refine Wp.heq (σ' := gUp (gUp (gUr (gUr (gUr σ 79 (σ 79)) 80 (σ 80)) 81 (σ 81)) 75 15 (σ 75 15)) 57 17 (σ 57 17)) rowsL75 ?_
  exact hl_2 _ 0 (σ 57 17) (σ 75 15) (σ 79) (σ 80) (σ 81) rfl (by omega) (by omega) (by omega) (by intro k a b; omega) (by rw [Int.sub_self]; exact rvf_0.symm) (by rw [Int.sub_self]; exact pfl_0.symm) (by rw [Int.sub_self]; exact pfl_0.symm)
theorem rowsL82 {σ : gH} : σ = gUp (gUp (gUr (gUr (gUr σ 86 (σ 86)) 87 (σ 87)) 88 (σ 88)) 82 15 (σ 82 15)) 57 17 (σ 57 17) := by
  rw [show gUr σ 86 (σ 86) = σ from gUr_id, show gUr σ 87 (σ 87) = σ from gUr_id, show gUr σ 88 (σ 88) = σ from gUr_id, show gUp σ 82 15 (σ 82 15) = σ from gUp_id, show gUp σ 57 17 (σ 57 17) = σ from gUp_id]
theorem kl82_closeLinks {σ : gH} (hd : σ 57 5 = 82) (w : Int) (hw : 0 ≤ w) (ht : 0 ≤ (σ 57 17) ∧ (σ 57 17) ≤ 64) (hs0 : 0 ≤ (σ 82 15) ∧ (σ 82 15) + (σ 57 17) ≤ 120) : Mt mX5_closeLinks 1 [gR 57, gI w] σ (fun v σ' => ∃ m, v = gX 1 ∧ LKS (σ 67) w (σ 57 17) m ∧ σ' = gUp (gUp (gUr (gUr (gUr σ 86 (rvf (σ 86) (σ 82 15) ((σ 57 17) - m) (σ 67) (σ 57 17))) 87 (pfl (σ 87) (σ 82 15) ((σ 57 17) - m) 0)) 88 (pfl (σ 88) (σ 82 15) ((σ 57 17) - m) 0)) 82 15 ((σ 82 15) + ((σ 57 17) - m))) 57 17 m) := by
  refine Mt.walk (ls := [gR 57, gI w, gX 1]) pn_X5 rfl (fun _ _ h => by obtain ⟨_, h, _⟩ := h; cases h) (Nat.le_of_ble_eq_true rfl) rfl ?_
  refine w_iconst (pc' := 1) (by decide) dX5_closeLinks_0 rfl ?_
  refine w_istore_n (pc' := 2) (i := 2) (ls' := [gR 57, gI w, gI 0]) (by rfl) (by decide) (by rfl) dX5_closeLinks_1 rfl ?_
  have hl_2 : ∀ (mm : Nat) (i m s : Int) (A B D : Int → Int), m.toNat = mm → (0 ≤ m ∧ m ≤ (σ 57 17)) → (i = (σ 57 17) - m) → (s = (σ 82 15) + ((σ 57 17) - m)) → (∀ k, m ≤ k → k < (σ 57 17) → σ 67 k = 15 ∨ σ 67 k = w) → (A = rvf (σ 86) (σ 82 15) ((σ 57 17) - m) (σ 67) (σ 57 17)) → (B = pfl (σ 87) (σ 82 15) ((σ 57 17) - m) 0) → (D = pfl (σ 88) (σ 82 15) ((σ 57 17) - m) 0) → Wp mX5_closeLinks 1 (fun v σ' => ∃ m, v = gX 1 ∧ LKS (σ 67) w (σ 57 17) m ∧ σ' = gUp (gUp (gUr (gUr (gUr σ 86 (rvf (σ 86) (σ 82 15) ((σ 57 17) - m) (σ 67) (σ 57 17))) 87 (pfl (σ 87) (σ 82 15) ((σ 57 17) - m) 0)) 88 (pfl (σ 88) (σ 82 15) ((σ 57 17) - m) 0)) 82 15 ((σ 82 15) + ((σ 57 17) - m))) 57 17 m) (gUp (gUp (gUr (gUr (gUr σ 86 A) 87 B) 88 D) 82 15 s) 57 17 m) 2 [gR 57, gI w, gI i] [] := by
    intro m_2
    induction m_2 using Nat.strongRecOn with
    | _ m_2 ih_2 =>
      intro i m s A B D hmeas_2 m0 hi hs hall hA hB hD
      have hl : ∀ _ : Unit, _ := fun _ => LWT_in (σ 67) m
      refine w_iload_n (pc' := 3) (i := 2) (by rfl) (by rfl) dX5_closeLinks_2 rfl ?_
      refine w_bipush (pc' := 5) (by decide) (by decide) dX5_closeLinks_3 rfl ?_
      refine w_icmp_ge (pc' := 8) (t := 54) dX5_closeLinks_5 rfl rfl (fun c_5 => ?_) (fun c_5 => ?_)
      · skip
        refine w_return rfl dX5_closeLinks_54 ?_
        have h9 := hl ()
        exact ⟨m, rfl, ⟨m0, hall, fun h => by omega⟩, by rw [hA, hB, hD, hs]⟩
      · skip
        refine w_aload_n (pc' := 9) (i := 0) (by rfl) (by rfl) dX5_closeLinks_8 rfl ?_
        refine v_callVE (pc' := 12) (st' := [gI (LWT (σ 67) m)]) (d' := 0) (av := []) mi_mX5_lastWaiting lk_X5_181 rfl ci_X5 kd_57 rfl (Nat.le_of_ble_eq_true rfl) (Nat.le_of_ble_eq_true rfl) dX5_closeLinks_9 rfl rfl (kl_lastWaiting (σ := gUp (gUp (gUr (gUr (gUr σ 86 A) 87 B) 88 D) 82 15 s) 57 17 m) (show 0 ≤ m ∧ m ≤ 64 by omega)) ?_
        refine w_bipush (pc' := 14) (by decide) (by decide) dX5_closeLinks_12 rfl ?_
        refine w_icmp_eq (pc' := 17) (t := 25) dX5_closeLinks_14 rfl rfl (fun c_14 => ?_) (fun c_14 => ?_)
        · skip
          refine w_aload_n (pc' := 26) (i := 0) (by rfl) (by rfl) dX5_closeLinks_25 rfl ?_
          refine v_getM (pc' := 29) (q := 82) (ji := 5) rfl fg_X5_29 kd_57 hd dX5_closeLinks_26 rfl ?_
          refine w_aload_n (pc' := 30) (i := 0) (by rfl) (by rfl) dX5_closeLinks_29 rfl ?_
          refine v_callVE (pc' := 33) (st' := [gI (LWT (σ 67) m), gR 82]) (d' := 0) (av := []) mi_mX5_lastWaiting lk_X5_181 rfl ci_X5 kd_57 rfl (Nat.le_of_ble_eq_true rfl) (Nat.le_of_ble_eq_true rfl) dX5_closeLinks_30 rfl rfl (kl_lastWaiting (σ := gUp (gUp (gUr (gUr (gUr σ 86 A) 87 B) 88 D) 82 15 s) 57 17 m) (show 0 ≤ m ∧ m ≤ 64 by omega)) ?_
          refine w_iconst (pc' := 34) (by decide) dX5_closeLinks_33 rfl ?_
          refine w_iconst (pc' := 35) (by decide) dX5_closeLinks_34 rfl ?_
          refine w_callV (pc' := 38) (d' := 0) (av := [gI (LWT (σ 67) m), gI 0, gI 0]) mi_mX4_put lk_X5_168 rfl ci_X4 kd_82 rfl (Nat.le_of_ble_eq_true rfl) (Nat.le_of_ble_eq_true rfl) dX5_closeLinks_35 rfl (kl82_put (σ := gUp (gUp (gUr (gUr (gUr σ 86 A) 87 B) 88 D) 82 15 s) 57 17 m) (LWT (σ 67) m) 0 0 (show 0 ≤ s ∧ s < 120 by first | omega | (have := hl (); omega))) (fun v_35 σ_35 q_35 => ?_)
          obtain ⟨rfl, rfl⟩ := q_35
          refine Wp.heq (σ' := gUp (gUp (gUr (gUr (gUr σ 86 (updI A s (LWT (σ 67) m))) 87 (updI B s 0)) 88 (updI D s 0)) 82 15 (s + 1)) 57 17 m) ((congrArg (fun z => gUp z 82 15 (s + 1)) ((congrArg (fun z => gUp z 88 s 0) ((congrArg (fun z => gUp z 87 s 0) ((gUp_cu (by decide)).trans (congrArg (fun z => gUp z 57 17 m) ((gUp_cu (by decide)).trans (congrArg (fun z => gUp z 82 15 s) ((gUp_cr (by decide)).trans (congrArg (fun z => gUr z 88 D) ((gUp_cr (by decide)).trans (congrArg (fun z => gUr z 87 B) gUp_row))))))))).trans ((gUp_cu (by decide)).trans (congrArg (fun z => gUp z 57 17 m) ((gUp_cu (by decide)).trans (congrArg (fun z => gUp z 82 15 s) ((gUp_cr (by decide)).trans (congrArg (fun z => gUr z 88 D) gUp_row)))))))).trans ((gUp_cu (by decide)).trans (congrArg (fun z => gUp z 57 17 m) ((gUp_cu (by decide)).trans (congrArg (fun z => gUp z 82 15 s) gUp_row)))))).trans ((gUp_cu (by decide)).trans (congrArg (fun z => gUp z 57 17 m) gUp_same))) ?_
          show Wp _ _ _ _ _ _ []
          refine w_aload_n (pc' := 39) (i := 0) (by rfl) (by rfl) dX5_closeLinks_38 rfl ?_
          refine w_dup (pc' := 40) dX5_closeLinks_39 rfl ?_
          refine v_getI (pc' := 43) (ji := 17) rfl fg_X5_156 kd_57 dX5_closeLinks_40 rfl ?_
          show Wp _ _ _ _ _ _ [gI m, gR 57]
          refine w_iconst (pc' := 44) (by decide) dX5_closeLinks_43 rfl ?_
          refine v_isub (pc' := 45) (by (first | omega | (have := hl (); omega))) dX5_closeLinks_44 rfl ?_
          refine v_putI (pc' := 48) (ji := 17) rfl fp_X5_156 kd_57 sf_X5_17 dX5_closeLinks_45 rfl ?_
          refine Wp.heq (σ' := gUp (gUp (gUr (gUr (gUr σ 86 (updI A s (LWT (σ 67) m))) 87 (updI B s 0)) 88 (updI D s 0)) 82 15 (s + 1)) 57 17 (m - 1)) gUp_same ?_
          refine v_iinc (pc' := 51) (x := i) (ls' := [gR 57, gI w, gI (i + 1)]) (by (first | omega | (have := hl (); omega))) (by decide) (by rfl) (by rfl) dX5_closeLinks_48 rfl ?_
          refine w_goto (pc' := 2) dX5_closeLinks_51 rfl ?_
          exact ih_2 _ (by have := hl (); omega) (i + 1) (m - 1) (s + 1) (updI A s (LWT (σ 67) m)) (updI B s 0) (updI D s 0) rfl (by have := hl (); omega) (by omega) (by omega) (by have h9 := hl (); intro k a b; by_cases e : k = m - 1; (rw [e]; omega); exact hall k (by omega) b) (by have h9 := hl (); rw [hA, show s = (σ 82 15) + ((σ 57 17) - m) from hs, show LWT (σ 67) m = σ 67 ((σ 57 17) - 1 - ((σ 57 17) - m)) by (rw [show (σ 57 17) - 1 - ((σ 57 17) - m) = m - 1 by omega]; omega), rvf_s (by omega), show (σ 57 17) - m + 1 = (σ 57 17) - (m - 1) by omega]) (by rw [hB, show s = (σ 82 15) + ((σ 57 17) - m) from hs, pfl_s (by omega), show (σ 57 17) - m + 1 = (σ 57 17) - (m - 1) by omega]) (by rw [hD, show s = (σ 82 15) + ((σ 57 17) - m) from hs, pfl_s (by omega), show (σ 57 17) - m + 1 = (σ 57 17) - (m - 1) by omega])
        · skip
          refine w_aload_n (pc' := 18) (i := 0) (by rfl) (by rfl) dX5_closeLinks_17 rfl ?_
          refine v_callVE (pc' := 21) (st' := [gI (LWT (σ 67) m)]) (d' := 0) (av := []) mi_mX5_lastWaiting lk_X5_181 rfl ci_X5 kd_57 rfl (Nat.le_of_ble_eq_true rfl) (Nat.le_of_ble_eq_true rfl) dX5_closeLinks_18 rfl rfl (kl_lastWaiting (σ := gUp (gUp (gUr (gUr (gUr σ 86 A) 87 B) 88 D) 82 15 s) 57 17 m) (show 0 ≤ m ∧ m ≤ 64 by omega)) ?_
          refine w_iload_n (pc' := 22) (i := 1) (by rfl) (by rfl) dX5_closeLinks_21 rfl ?_
          refine w_icmp_ne (pc' := 25) (t := 54) dX5_closeLinks_22 rfl rfl (fun c_22 => ?_) (fun c_22 => ?_)
          · skip
            refine w_return rfl dX5_closeLinks_54 ?_
            have h9 := hl ()
            exact ⟨m, rfl, ⟨m0, hall, fun h => by omega⟩, by rw [hA, hB, hD, hs]⟩
          · skip
            refine w_aload_n (pc' := 26) (i := 0) (by rfl) (by rfl) dX5_closeLinks_25 rfl ?_
            refine v_getM (pc' := 29) (q := 82) (ji := 5) rfl fg_X5_29 kd_57 hd dX5_closeLinks_26 rfl ?_
            refine w_aload_n (pc' := 30) (i := 0) (by rfl) (by rfl) dX5_closeLinks_29 rfl ?_
            refine v_callVE (pc' := 33) (st' := [gI (LWT (σ 67) m), gR 82]) (d' := 0) (av := []) mi_mX5_lastWaiting lk_X5_181 rfl ci_X5 kd_57 rfl (Nat.le_of_ble_eq_true rfl) (Nat.le_of_ble_eq_true rfl) dX5_closeLinks_30 rfl rfl (kl_lastWaiting (σ := gUp (gUp (gUr (gUr (gUr σ 86 A) 87 B) 88 D) 82 15 s) 57 17 m) (show 0 ≤ m ∧ m ≤ 64 by omega)) ?_
            refine w_iconst (pc' := 34) (by decide) dX5_closeLinks_33 rfl ?_
            refine w_iconst (pc' := 35) (by decide) dX5_closeLinks_34 rfl ?_
            refine w_callV (pc' := 38) (d' := 0) (av := [gI (LWT (σ 67) m), gI 0, gI 0]) mi_mX4_put lk_X5_168 rfl ci_X4 kd_82 rfl (Nat.le_of_ble_eq_true rfl) (Nat.le_of_ble_eq_true rfl) dX5_closeLinks_35 rfl (kl82_put (σ := gUp (gUp (gUr (gUr (gUr σ 86 A) 87 B) 88 D) 82 15 s) 57 17 m) (LWT (σ 67) m) 0 0 (show 0 ≤ s ∧ s < 120 by first | omega | (have := hl (); omega))) (fun v_35 σ_35 q_35 => ?_)
            obtain ⟨rfl, rfl⟩ := q_35
            refine Wp.heq (σ' := gUp (gUp (gUr (gUr (gUr σ 86 (updI A s (LWT (σ 67) m))) 87 (updI B s 0)) 88 (updI D s 0)) 82 15 (s + 1)) 57 17 m) ((congrArg (fun z => gUp z 82 15 (s + 1)) ((congrArg (fun z => gUp z 88 s 0) ((congrArg (fun z => gUp z 87 s 0) ((gUp_cu (by decide)).trans (congrArg (fun z => gUp z 57 17 m) ((gUp_cu (by decide)).trans (congrArg (fun z => gUp z 82 15 s) ((gUp_cr (by decide)).trans (congrArg (fun z => gUr z 88 D) ((gUp_cr (by decide)).trans (congrArg (fun z => gUr z 87 B) gUp_row))))))))).trans ((gUp_cu (by decide)).trans (congrArg (fun z => gUp z 57 17 m) ((gUp_cu (by decide)).trans (congrArg (fun z => gUp z 82 15 s) ((gUp_cr (by decide)).trans (congrArg (fun z => gUr z 88 D) gUp_row)))))))).trans ((gUp_cu (by decide)).trans (congrArg (fun z => gUp z 57 17 m) ((gUp_cu (by decide)).trans (congrArg (fun z => gUp z 82 15 s) gUp_row)))))).trans ((gUp_cu (by decide)).trans (congrArg (fun z => gUp z 57 17 m) gUp_same))) ?_
            show Wp _ _ _ _ _ _ []
            refine w_aload_n (pc' := 39) (i := 0) (by rfl) (by rfl) dX5_closeLinks_38 rfl ?_
            refine w_dup (pc' := 40) dX5_closeLinks_39 rfl ?_
            refine v_getI (pc' := 43) (ji := 17) rfl fg_X5_156 kd_57 dX5_closeLinks_40 rfl ?_
            show Wp _ _ _ _ _ _ [gI m, gR 57]
            refine w_iconst (pc' := 44) (by decide) dX5_closeLinks_43 rfl ?_
            refine v_isub (pc' := 45) (by (first | omega | (have := hl (); omega))) dX5_closeLinks_44 rfl ?_
            refine v_putI (pc' := 48) (ji := 17) rfl fp_X5_156 kd_57 sf_X5_17 dX5_closeLinks_45 rfl ?_
            refine Wp.heq (σ' := gUp (gUp (gUr (gUr (gUr σ 86 (updI A s (LWT (σ 67) m))) 87 (updI B s 0)) 88 (updI D s 0)) 82 15 (s + 1)) 57 17 (m - 1)) gUp_same ?_
            refine v_iinc (pc' := 51) (x := i) (ls' := [gR 57, gI w, gI (i + 1)]) (by (first | omega | (have := hl (); omega))) (by decide) (by rfl) (by rfl) dX5_closeLinks_48 rfl ?_
            refine w_goto (pc' := 2) dX5_closeLinks_51 rfl ?_
            exact ih_2 _ (by have := hl (); omega) (i + 1) (m - 1) (s + 1) (updI A s (LWT (σ 67) m)) (updI B s 0) (updI D s 0) rfl (by have := hl (); omega) (by omega) (by omega) (by have h9 := hl (); intro k a b; by_cases e : k = m - 1; (rw [e]; omega); exact hall k (by omega) b) (by have h9 := hl (); rw [hA, show s = (σ 82 15) + ((σ 57 17) - m) from hs, show LWT (σ 67) m = σ 67 ((σ 57 17) - 1 - ((σ 57 17) - m)) by (rw [show (σ 57 17) - 1 - ((σ 57 17) - m) = m - 1 by omega]; omega), rvf_s (by omega), show (σ 57 17) - m + 1 = (σ 57 17) - (m - 1) by omega]) (by rw [hB, show s = (σ 82 15) + ((σ 57 17) - m) from hs, pfl_s (by omega), show (σ 57 17) - m + 1 = (σ 57 17) - (m - 1) by omega]) (by rw [hD, show s = (σ 82 15) + ((σ 57 17) - m) from hs, pfl_s (by omega), show (σ 57 17) - m + 1 = (σ 57 17) - (m - 1) by omega])
  refine Wp.heq (σ' := gUp (gUp (gUr (gUr (gUr σ 86 (σ 86)) 87 (σ 87)) 88 (σ 88)) 82 15 (σ 82 15)) 57 17 (σ 57 17)) rowsL82 ?_
  exact hl_2 _ 0 (σ 57 17) (σ 82 15) (σ 86) (σ 87) (σ 88) rfl (by omega) (by omega) (by omega) (by intro k a b; omega) (by rw [Int.sub_self]; exact rvf_0.symm) (by rw [Int.sub_self]; exact pfl_0.symm) (by rw [Int.sub_self]; exact pfl_0.symm)
theorem rowsL89 {σ : gH} : σ = gUp (gUp (gUr (gUr (gUr σ 93 (σ 93)) 94 (σ 94)) 95 (σ 95)) 89 15 (σ 89 15)) 57 17 (σ 57 17) := by
  rw [show gUr σ 93 (σ 93) = σ from gUr_id, show gUr σ 94 (σ 94) = σ from gUr_id, show gUr σ 95 (σ 95) = σ from gUr_id, show gUp σ 89 15 (σ 89 15) = σ from gUp_id, show gUp σ 57 17 (σ 57 17) = σ from gUp_id]
theorem kl89_closeLinks {σ : gH} (hd : σ 57 5 = 89) (w : Int) (hw : 0 ≤ w) (ht : 0 ≤ (σ 57 17) ∧ (σ 57 17) ≤ 64) (hs0 : 0 ≤ (σ 89 15) ∧ (σ 89 15) + (σ 57 17) ≤ 120) : Mt mX5_closeLinks 1 [gR 57, gI w] σ (fun v σ' => ∃ m, v = gX 1 ∧ LKS (σ 67) w (σ 57 17) m ∧ σ' = gUp (gUp (gUr (gUr (gUr σ 93 (rvf (σ 93) (σ 89 15) ((σ 57 17) - m) (σ 67) (σ 57 17))) 94 (pfl (σ 94) (σ 89 15) ((σ 57 17) - m) 0)) 95 (pfl (σ 95) (σ 89 15) ((σ 57 17) - m) 0)) 89 15 ((σ 89 15) + ((σ 57 17) - m))) 57 17 m) := by
  refine Mt.walk (ls := [gR 57, gI w, gX 1]) pn_X5 rfl (fun _ _ h => by obtain ⟨_, h, _⟩ := h; cases h) (Nat.le_of_ble_eq_true rfl) rfl ?_
  refine w_iconst (pc' := 1) (by decide) dX5_closeLinks_0 rfl ?_
  refine w_istore_n (pc' := 2) (i := 2) (ls' := [gR 57, gI w, gI 0]) (by rfl) (by decide) (by rfl) dX5_closeLinks_1 rfl ?_
  have hl_2 : ∀ (mm : Nat) (i m s : Int) (A B D : Int → Int), m.toNat = mm → (0 ≤ m ∧ m ≤ (σ 57 17)) → (i = (σ 57 17) - m) → (s = (σ 89 15) + ((σ 57 17) - m)) → (∀ k, m ≤ k → k < (σ 57 17) → σ 67 k = 15 ∨ σ 67 k = w) → (A = rvf (σ 93) (σ 89 15) ((σ 57 17) - m) (σ 67) (σ 57 17)) → (B = pfl (σ 94) (σ 89 15) ((σ 57 17) - m) 0) → (D = pfl (σ 95) (σ 89 15) ((σ 57 17) - m) 0) → Wp mX5_closeLinks 1 (fun v σ' => ∃ m, v = gX 1 ∧ LKS (σ 67) w (σ 57 17) m ∧ σ' = gUp (gUp (gUr (gUr (gUr σ 93 (rvf (σ 93) (σ 89 15) ((σ 57 17) - m) (σ 67) (σ 57 17))) 94 (pfl (σ 94) (σ 89 15) ((σ 57 17) - m) 0)) 95 (pfl (σ 95) (σ 89 15) ((σ 57 17) - m) 0)) 89 15 ((σ 89 15) + ((σ 57 17) - m))) 57 17 m) (gUp (gUp (gUr (gUr (gUr σ 93 A) 94 B) 95 D) 89 15 s) 57 17 m) 2 [gR 57, gI w, gI i] [] := by
    intro m_2
    induction m_2 using Nat.strongRecOn with
    | _ m_2 ih_2 =>
      intro i m s A B D hmeas_2 m0 hi hs hall hA hB hD
      have hl : ∀ _ : Unit, _ := fun _ => LWT_in (σ 67) m
      refine w_iload_n (pc' := 3) (i := 2) (by rfl) (by rfl) dX5_closeLinks_2 rfl ?_
      refine w_bipush (pc' := 5) (by decide) (by decide) dX5_closeLinks_3 rfl ?_
      refine w_icmp_ge (pc' := 8) (t := 54) dX5_closeLinks_5 rfl rfl (fun c_5 => ?_) (fun c_5 => ?_)
      · skip
        refine w_return rfl dX5_closeLinks_54 ?_
        have h9 := hl ()
        exact ⟨m, rfl, ⟨m0, hall, fun h => by omega⟩, by rw [hA, hB, hD, hs]⟩
      · skip
        refine w_aload_n (pc' := 9) (i := 0) (by rfl) (by rfl) dX5_closeLinks_8 rfl ?_
        refine v_callVE (pc' := 12) (st' := [gI (LWT (σ 67) m)]) (d' := 0) (av := []) mi_mX5_lastWaiting lk_X5_181 rfl ci_X5 kd_57 rfl (Nat.le_of_ble_eq_true rfl) (Nat.le_of_ble_eq_true rfl) dX5_closeLinks_9 rfl rfl (kl_lastWaiting (σ := gUp (gUp (gUr (gUr (gUr σ 93 A) 94 B) 95 D) 89 15 s) 57 17 m) (show 0 ≤ m ∧ m ≤ 64 by omega)) ?_
        refine w_bipush (pc' := 14) (by decide) (by decide) dX5_closeLinks_12 rfl ?_
        refine w_icmp_eq (pc' := 17) (t := 25) dX5_closeLinks_14 rfl rfl (fun c_14 => ?_) (fun c_14 => ?_)
        · skip
          refine w_aload_n (pc' := 26) (i := 0) (by rfl) (by rfl) dX5_closeLinks_25 rfl ?_
          refine v_getM (pc' := 29) (q := 89) (ji := 5) rfl fg_X5_29 kd_57 hd dX5_closeLinks_26 rfl ?_
          refine w_aload_n (pc' := 30) (i := 0) (by rfl) (by rfl) dX5_closeLinks_29 rfl ?_
          refine v_callVE (pc' := 33) (st' := [gI (LWT (σ 67) m), gR 89]) (d' := 0) (av := []) mi_mX5_lastWaiting lk_X5_181 rfl ci_X5 kd_57 rfl (Nat.le_of_ble_eq_true rfl) (Nat.le_of_ble_eq_true rfl) dX5_closeLinks_30 rfl rfl (kl_lastWaiting (σ := gUp (gUp (gUr (gUr (gUr σ 93 A) 94 B) 95 D) 89 15 s) 57 17 m) (show 0 ≤ m ∧ m ≤ 64 by omega)) ?_
          refine w_iconst (pc' := 34) (by decide) dX5_closeLinks_33 rfl ?_
          refine w_iconst (pc' := 35) (by decide) dX5_closeLinks_34 rfl ?_
          refine w_callV (pc' := 38) (d' := 0) (av := [gI (LWT (σ 67) m), gI 0, gI 0]) mi_mX4_put lk_X5_168 rfl ci_X4 kd_89 rfl (Nat.le_of_ble_eq_true rfl) (Nat.le_of_ble_eq_true rfl) dX5_closeLinks_35 rfl (kl89_put (σ := gUp (gUp (gUr (gUr (gUr σ 93 A) 94 B) 95 D) 89 15 s) 57 17 m) (LWT (σ 67) m) 0 0 (show 0 ≤ s ∧ s < 120 by first | omega | (have := hl (); omega))) (fun v_35 σ_35 q_35 => ?_)
          obtain ⟨rfl, rfl⟩ := q_35
          refine Wp.heq (σ' := gUp (gUp (gUr (gUr (gUr σ 93 (updI A s (LWT (σ 67) m))) 94 (updI B s 0)) 95 (updI D s 0)) 89 15 (s + 1)) 57 17 m) ((congrArg (fun z => gUp z 89 15 (s + 1)) ((congrArg (fun z => gUp z 95 s 0) ((congrArg (fun z => gUp z 94 s 0) ((gUp_cu (by decide)).trans (congrArg (fun z => gUp z 57 17 m) ((gUp_cu (by decide)).trans (congrArg (fun z => gUp z 89 15 s) ((gUp_cr (by decide)).trans (congrArg (fun z => gUr z 95 D) ((gUp_cr (by decide)).trans (congrArg (fun z => gUr z 94 B) gUp_row))))))))).trans ((gUp_cu (by decide)).trans (congrArg (fun z => gUp z 57 17 m) ((gUp_cu (by decide)).trans (congrArg (fun z => gUp z 89 15 s) ((gUp_cr (by decide)).trans (congrArg (fun z => gUr z 95 D) gUp_row)))))))).trans ((gUp_cu (by decide)).trans (congrArg (fun z => gUp z 57 17 m) ((gUp_cu (by decide)).trans (congrArg (fun z => gUp z 89 15 s) gUp_row)))))).trans ((gUp_cu (by decide)).trans (congrArg (fun z => gUp z 57 17 m) gUp_same))) ?_
          show Wp _ _ _ _ _ _ []
          refine w_aload_n (pc' := 39) (i := 0) (by rfl) (by rfl) dX5_closeLinks_38 rfl ?_
          refine w_dup (pc' := 40) dX5_closeLinks_39 rfl ?_
          refine v_getI (pc' := 43) (ji := 17) rfl fg_X5_156 kd_57 dX5_closeLinks_40 rfl ?_
          show Wp _ _ _ _ _ _ [gI m, gR 57]
          refine w_iconst (pc' := 44) (by decide) dX5_closeLinks_43 rfl ?_
          refine v_isub (pc' := 45) (by (first | omega | (have := hl (); omega))) dX5_closeLinks_44 rfl ?_
          refine v_putI (pc' := 48) (ji := 17) rfl fp_X5_156 kd_57 sf_X5_17 dX5_closeLinks_45 rfl ?_
          refine Wp.heq (σ' := gUp (gUp (gUr (gUr (gUr σ 93 (updI A s (LWT (σ 67) m))) 94 (updI B s 0)) 95 (updI D s 0)) 89 15 (s + 1)) 57 17 (m - 1)) gUp_same ?_
          refine v_iinc (pc' := 51) (x := i) (ls' := [gR 57, gI w, gI (i + 1)]) (by (first | omega | (have := hl (); omega))) (by decide) (by rfl) (by rfl) dX5_closeLinks_48 rfl ?_
          refine w_goto (pc' := 2) dX5_closeLinks_51 rfl ?_
          exact ih_2 _ (by have := hl (); omega) (i + 1) (m - 1) (s + 1) (updI A s (LWT (σ 67) m)) (updI B s 0) (updI D s 0) rfl (by have := hl (); omega) (by omega) (by omega) (by have h9 := hl (); intro k a b; by_cases e : k = m - 1; (rw [e]; omega); exact hall k (by omega) b) (by have h9 := hl (); rw [hA, show s = (σ 89 15) + ((σ 57 17) - m) from hs, show LWT (σ 67) m = σ 67 ((σ 57 17) - 1 - ((σ 57 17) - m)) by (rw [show (σ 57 17) - 1 - ((σ 57 17) - m) = m - 1 by omega]; omega), rvf_s (by omega), show (σ 57 17) - m + 1 = (σ 57 17) - (m - 1) by omega]) (by rw [hB, show s = (σ 89 15) + ((σ 57 17) - m) from hs, pfl_s (by omega), show (σ 57 17) - m + 1 = (σ 57 17) - (m - 1) by omega]) (by rw [hD, show s = (σ 89 15) + ((σ 57 17) - m) from hs, pfl_s (by omega), show (σ 57 17) - m + 1 = (σ 57 17) - (m - 1) by omega])
        · skip
          refine w_aload_n (pc' := 18) (i := 0) (by rfl) (by rfl) dX5_closeLinks_17 rfl ?_
          refine v_callVE (pc' := 21) (st' := [gI (LWT (σ 67) m)]) (d' := 0) (av := []) mi_mX5_lastWaiting lk_X5_181 rfl ci_X5 kd_57 rfl (Nat.le_of_ble_eq_true rfl) (Nat.le_of_ble_eq_true rfl) dX5_closeLinks_18 rfl rfl (kl_lastWaiting (σ := gUp (gUp (gUr (gUr (gUr σ 93 A) 94 B) 95 D) 89 15 s) 57 17 m) (show 0 ≤ m ∧ m ≤ 64 by omega)) ?_
          refine w_iload_n (pc' := 22) (i := 1) (by rfl) (by rfl) dX5_closeLinks_21 rfl ?_
          refine w_icmp_ne (pc' := 25) (t := 54) dX5_closeLinks_22 rfl rfl (fun c_22 => ?_) (fun c_22 => ?_)
          · skip
            refine w_return rfl dX5_closeLinks_54 ?_
            have h9 := hl ()
            exact ⟨m, rfl, ⟨m0, hall, fun h => by omega⟩, by rw [hA, hB, hD, hs]⟩
          · skip
            refine w_aload_n (pc' := 26) (i := 0) (by rfl) (by rfl) dX5_closeLinks_25 rfl ?_
            refine v_getM (pc' := 29) (q := 89) (ji := 5) rfl fg_X5_29 kd_57 hd dX5_closeLinks_26 rfl ?_
            refine w_aload_n (pc' := 30) (i := 0) (by rfl) (by rfl) dX5_closeLinks_29 rfl ?_
            refine v_callVE (pc' := 33) (st' := [gI (LWT (σ 67) m), gR 89]) (d' := 0) (av := []) mi_mX5_lastWaiting lk_X5_181 rfl ci_X5 kd_57 rfl (Nat.le_of_ble_eq_true rfl) (Nat.le_of_ble_eq_true rfl) dX5_closeLinks_30 rfl rfl (kl_lastWaiting (σ := gUp (gUp (gUr (gUr (gUr σ 93 A) 94 B) 95 D) 89 15 s) 57 17 m) (show 0 ≤ m ∧ m ≤ 64 by omega)) ?_
            refine w_iconst (pc' := 34) (by decide) dX5_closeLinks_33 rfl ?_
            refine w_iconst (pc' := 35) (by decide) dX5_closeLinks_34 rfl ?_
            refine w_callV (pc' := 38) (d' := 0) (av := [gI (LWT (σ 67) m), gI 0, gI 0]) mi_mX4_put lk_X5_168 rfl ci_X4 kd_89 rfl (Nat.le_of_ble_eq_true rfl) (Nat.le_of_ble_eq_true rfl) dX5_closeLinks_35 rfl (kl89_put (σ := gUp (gUp (gUr (gUr (gUr σ 93 A) 94 B) 95 D) 89 15 s) 57 17 m) (LWT (σ 67) m) 0 0 (show 0 ≤ s ∧ s < 120 by first | omega | (have := hl (); omega))) (fun v_35 σ_35 q_35 => ?_)
            obtain ⟨rfl, rfl⟩ := q_35
            refine Wp.heq (σ' := gUp (gUp (gUr (gUr (gUr σ 93 (updI A s (LWT (σ 67) m))) 94 (updI B s 0)) 95 (updI D s 0)) 89 15 (s + 1)) 57 17 m) ((congrArg (fun z => gUp z 89 15 (s + 1)) ((congrArg (fun z => gUp z 95 s 0) ((congrArg (fun z => gUp z 94 s 0) ((gUp_cu (by decide)).trans (congrArg (fun z => gUp z 57 17 m) ((gUp_cu (by decide)).trans (congrArg (fun z => gUp z 89 15 s) ((gUp_cr (by decide)).trans (congrArg (fun z => gUr z 95 D) ((gUp_cr (by decide)).trans (congrArg (fun z => gUr z 94 B) gUp_row))))))))).trans ((gUp_cu (by decide)).trans (congrArg (fun z => gUp z 57 17 m) ((gUp_cu (by decide)).trans (congrArg (fun z => gUp z 89 15 s) ((gUp_cr (by decide)).trans (congrArg (fun z => gUr z 95 D) gUp_row)))))))).trans ((gUp_cu (by decide)).trans (congrArg (fun z => gUp z 57 17 m) ((gUp_cu (by decide)).trans (congrArg (fun z => gUp z 89 15 s) gUp_row)))))).trans ((gUp_cu (by decide)).trans (congrArg (fun z => gUp z 57 17 m) gUp_same))) ?_
            show Wp _ _ _ _ _ _ []
            refine w_aload_n (pc' := 39) (i := 0) (by rfl) (by rfl) dX5_closeLinks_38 rfl ?_
            refine w_dup (pc' := 40) dX5_closeLinks_39 rfl ?_
            refine v_getI (pc' := 43) (ji := 17) rfl fg_X5_156 kd_57 dX5_closeLinks_40 rfl ?_
            show Wp _ _ _ _ _ _ [gI m, gR 57]
            refine w_iconst (pc' := 44) (by decide) dX5_closeLinks_43 rfl ?_
            refine v_isub (pc' := 45) (by (first | omega | (have := hl (); omega))) dX5_closeLinks_44 rfl ?_
            refine v_putI (pc' := 48) (ji := 17) rfl fp_X5_156 kd_57 sf_X5_17 dX5_closeLinks_45 rfl ?_
            refine Wp.heq (σ' := gUp (gUp (gUr (gUr (gUr σ 93 (updI A s (LWT (σ 67) m))) 94 (updI B s 0)) 95 (updI D s 0)) 89 15 (s + 1)) 57 17 (m - 1)) gUp_same ?_
            refine v_iinc (pc' := 51) (x := i) (ls' := [gR 57, gI w, gI (i + 1)]) (by (first | omega | (have := hl (); omega))) (by decide) (by rfl) (by rfl) dX5_closeLinks_48 rfl ?_
            refine w_goto (pc' := 2) dX5_closeLinks_51 rfl ?_
            exact ih_2 _ (by have := hl (); omega) (i + 1) (m - 1) (s + 1) (updI A s (LWT (σ 67) m)) (updI B s 0) (updI D s 0) rfl (by have := hl (); omega) (by omega) (by omega) (by have h9 := hl (); intro k a b; by_cases e : k = m - 1; (rw [e]; omega); exact hall k (by omega) b) (by have h9 := hl (); rw [hA, show s = (σ 89 15) + ((σ 57 17) - m) from hs, show LWT (σ 67) m = σ 67 ((σ 57 17) - 1 - ((σ 57 17) - m)) by (rw [show (σ 57 17) - 1 - ((σ 57 17) - m) = m - 1 by omega]; omega), rvf_s (by omega), show (σ 57 17) - m + 1 = (σ 57 17) - (m - 1) by omega]) (by rw [hB, show s = (σ 89 15) + ((σ 57 17) - m) from hs, pfl_s (by omega), show (σ 57 17) - m + 1 = (σ 57 17) - (m - 1) by omega]) (by rw [hD, show s = (σ 89 15) + ((σ 57 17) - m) from hs, pfl_s (by omega), show (σ 57 17) - m + 1 = (σ 57 17) - (m - 1) by omega])
  refine Wp.heq (σ' := gUp (gUp (gUr (gUr (gUr σ 93 (σ 93)) 94 (σ 94)) 95 (σ 95)) 89 15 (σ 89 15)) 57 17 (σ 57 17)) rowsL89 ?_
  exact hl_2 _ 0 (σ 57 17) (σ 89 15) (σ 93) (σ 94) (σ 95) rfl (by omega) (by omega) (by omega) (by intro k a b; omega) (by rw [Int.sub_self]; exact rvf_0.symm) (by rw [Int.sub_self]; exact pfl_0.symm) (by rw [Int.sub_self]; exact pfl_0.symm)
theorem rowsL96 {σ : gH} : σ = gUp (gUp (gUr (gUr (gUr σ 100 (σ 100)) 101 (σ 101)) 102 (σ 102)) 96 15 (σ 96 15)) 57 17 (σ 57 17) := by
  rw [show gUr σ 100 (σ 100) = σ from gUr_id, show gUr σ 101 (σ 101) = σ from gUr_id, show gUr σ 102 (σ 102) = σ from gUr_id, show gUp σ 96 15 (σ 96 15) = σ from gUp_id, show gUp σ 57 17 (σ 57 17) = σ from gUp_id]
theorem kl96_closeLinks {σ : gH} (hd : σ 57 5 = 96) (w : Int) (hw : 0 ≤ w) (ht : 0 ≤ (σ 57 17) ∧ (σ 57 17) ≤ 64) (hs0 : 0 ≤ (σ 96 15) ∧ (σ 96 15) + (σ 57 17) ≤ 120) : Mt mX5_closeLinks 1 [gR 57, gI w] σ (fun v σ' => ∃ m, v = gX 1 ∧ LKS (σ 67) w (σ 57 17) m ∧ σ' = gUp (gUp (gUr (gUr (gUr σ 100 (rvf (σ 100) (σ 96 15) ((σ 57 17) - m) (σ 67) (σ 57 17))) 101 (pfl (σ 101) (σ 96 15) ((σ 57 17) - m) 0)) 102 (pfl (σ 102) (σ 96 15) ((σ 57 17) - m) 0)) 96 15 ((σ 96 15) + ((σ 57 17) - m))) 57 17 m) := by
  refine Mt.walk (ls := [gR 57, gI w, gX 1]) pn_X5 rfl (fun _ _ h => by obtain ⟨_, h, _⟩ := h; cases h) (Nat.le_of_ble_eq_true rfl) rfl ?_
  refine w_iconst (pc' := 1) (by decide) dX5_closeLinks_0 rfl ?_
  refine w_istore_n (pc' := 2) (i := 2) (ls' := [gR 57, gI w, gI 0]) (by rfl) (by decide) (by rfl) dX5_closeLinks_1 rfl ?_
  have hl_2 : ∀ (mm : Nat) (i m s : Int) (A B D : Int → Int), m.toNat = mm → (0 ≤ m ∧ m ≤ (σ 57 17)) → (i = (σ 57 17) - m) → (s = (σ 96 15) + ((σ 57 17) - m)) → (∀ k, m ≤ k → k < (σ 57 17) → σ 67 k = 15 ∨ σ 67 k = w) → (A = rvf (σ 100) (σ 96 15) ((σ 57 17) - m) (σ 67) (σ 57 17)) → (B = pfl (σ 101) (σ 96 15) ((σ 57 17) - m) 0) → (D = pfl (σ 102) (σ 96 15) ((σ 57 17) - m) 0) → Wp mX5_closeLinks 1 (fun v σ' => ∃ m, v = gX 1 ∧ LKS (σ 67) w (σ 57 17) m ∧ σ' = gUp (gUp (gUr (gUr (gUr σ 100 (rvf (σ 100) (σ 96 15) ((σ 57 17) - m) (σ 67) (σ 57 17))) 101 (pfl (σ 101) (σ 96 15) ((σ 57 17) - m) 0)) 102 (pfl (σ 102) (σ 96 15) ((σ 57 17) - m) 0)) 96 15 ((σ 96 15) + ((σ 57 17) - m))) 57 17 m) (gUp (gUp (gUr (gUr (gUr σ 100 A) 101 B) 102 D) 96 15 s) 57 17 m) 2 [gR 57, gI w, gI i] [] := by
    intro m_2
    induction m_2 using Nat.strongRecOn with
    | _ m_2 ih_2 =>
      intro i m s A B D hmeas_2 m0 hi hs hall hA hB hD
      have hl : ∀ _ : Unit, _ := fun _ => LWT_in (σ 67) m
      refine w_iload_n (pc' := 3) (i := 2) (by rfl) (by rfl) dX5_closeLinks_2 rfl ?_
      refine w_bipush (pc' := 5) (by decide) (by decide) dX5_closeLinks_3 rfl ?_
      refine w_icmp_ge (pc' := 8) (t := 54) dX5_closeLinks_5 rfl rfl (fun c_5 => ?_) (fun c_5 => ?_)
      · skip
        refine w_return rfl dX5_closeLinks_54 ?_
        have h9 := hl ()
        exact ⟨m, rfl, ⟨m0, hall, fun h => by omega⟩, by rw [hA, hB, hD, hs]⟩
      · skip
        refine w_aload_n (pc' := 9) (i := 0) (by rfl) (by rfl) dX5_closeLinks_8 rfl ?_
        refine v_callVE (pc' := 12) (st' := [gI (LWT (σ 67) m)]) (d' := 0) (av := []) mi_mX5_lastWaiting lk_X5_181 rfl ci_X5 kd_57 rfl (Nat.le_of_ble_eq_true rfl) (Nat.le_of_ble_eq_true rfl) dX5_closeLinks_9 rfl rfl (kl_lastWaiting (σ := gUp (gUp (gUr (gUr (gUr σ 100 A) 101 B) 102 D) 96 15 s) 57 17 m) (show 0 ≤ m ∧ m ≤ 64 by omega)) ?_
        refine w_bipush (pc' := 14) (by decide) (by decide) dX5_closeLinks_12 rfl ?_
        refine w_icmp_eq (pc' := 17) (t := 25) dX5_closeLinks_14 rfl rfl (fun c_14 => ?_) (fun c_14 => ?_)
        · skip
          refine w_aload_n (pc' := 26) (i := 0) (by rfl) (by rfl) dX5_closeLinks_25 rfl ?_
          refine v_getM (pc' := 29) (q := 96) (ji := 5) rfl fg_X5_29 kd_57 hd dX5_closeLinks_26 rfl ?_
          refine w_aload_n (pc' := 30) (i := 0) (by rfl) (by rfl) dX5_closeLinks_29 rfl ?_
          refine v_callVE (pc' := 33) (st' := [gI (LWT (σ 67) m), gR 96]) (d' := 0) (av := []) mi_mX5_lastWaiting lk_X5_181 rfl ci_X5 kd_57 rfl (Nat.le_of_ble_eq_true rfl) (Nat.le_of_ble_eq_true rfl) dX5_closeLinks_30 rfl rfl (kl_lastWaiting (σ := gUp (gUp (gUr (gUr (gUr σ 100 A) 101 B) 102 D) 96 15 s) 57 17 m) (show 0 ≤ m ∧ m ≤ 64 by omega)) ?_
          refine w_iconst (pc' := 34) (by decide) dX5_closeLinks_33 rfl ?_
          refine w_iconst (pc' := 35) (by decide) dX5_closeLinks_34 rfl ?_
          refine w_callV (pc' := 38) (d' := 0) (av := [gI (LWT (σ 67) m), gI 0, gI 0]) mi_mX4_put lk_X5_168 rfl ci_X4 kd_96 rfl (Nat.le_of_ble_eq_true rfl) (Nat.le_of_ble_eq_true rfl) dX5_closeLinks_35 rfl (kl96_put (σ := gUp (gUp (gUr (gUr (gUr σ 100 A) 101 B) 102 D) 96 15 s) 57 17 m) (LWT (σ 67) m) 0 0 (show 0 ≤ s ∧ s < 120 by first | omega | (have := hl (); omega))) (fun v_35 σ_35 q_35 => ?_)
          obtain ⟨rfl, rfl⟩ := q_35
          refine Wp.heq (σ' := gUp (gUp (gUr (gUr (gUr σ 100 (updI A s (LWT (σ 67) m))) 101 (updI B s 0)) 102 (updI D s 0)) 96 15 (s + 1)) 57 17 m) ((congrArg (fun z => gUp z 96 15 (s + 1)) ((congrArg (fun z => gUp z 102 s 0) ((congrArg (fun z => gUp z 101 s 0) ((gUp_cu (by decide)).trans (congrArg (fun z => gUp z 57 17 m) ((gUp_cu (by decide)).trans (congrArg (fun z => gUp z 96 15 s) ((gUp_cr (by decide)).trans (congrArg (fun z => gUr z 102 D) ((gUp_cr (by decide)).trans (congrArg (fun z => gUr z 101 B) gUp_row))))))))).trans ((gUp_cu (by decide)).trans (congrArg (fun z => gUp z 57 17 m) ((gUp_cu (by decide)).trans (congrArg (fun z => gUp z 96 15 s) ((gUp_cr (by decide)).trans (congrArg (fun z => gUr z 102 D) gUp_row)))))))).trans ((gUp_cu (by decide)).trans (congrArg (fun z => gUp z 57 17 m) ((gUp_cu (by decide)).trans (congrArg (fun z => gUp z 96 15 s) gUp_row)))))).trans ((gUp_cu (by decide)).trans (congrArg (fun z => gUp z 57 17 m) gUp_same))) ?_
          show Wp _ _ _ _ _ _ []
          refine w_aload_n (pc' := 39) (i := 0) (by rfl) (by rfl) dX5_closeLinks_38 rfl ?_
          refine w_dup (pc' := 40) dX5_closeLinks_39 rfl ?_
          refine v_getI (pc' := 43) (ji := 17) rfl fg_X5_156 kd_57 dX5_closeLinks_40 rfl ?_
          show Wp _ _ _ _ _ _ [gI m, gR 57]
          refine w_iconst (pc' := 44) (by decide) dX5_closeLinks_43 rfl ?_
          refine v_isub (pc' := 45) (by (first | omega | (have := hl (); omega))) dX5_closeLinks_44 rfl ?_
          refine v_putI (pc' := 48) (ji := 17) rfl fp_X5_156 kd_57 sf_X5_17 dX5_closeLinks_45 rfl ?_
          refine Wp.heq (σ' := gUp (gUp (gUr (gUr (gUr σ 100 (updI A s (LWT (σ 67) m))) 101 (updI B s 0)) 102 (updI D s 0)) 96 15 (s + 1)) 57 17 (m - 1)) gUp_same ?_
          refine v_iinc (pc' := 51) (x := i) (ls' := [gR 57, gI w, gI (i + 1)]) (by (first | omega | (have := hl (); omega))) (by decide) (by rfl) (by rfl) dX5_closeLinks_48 rfl ?_
          refine w_goto (pc' := 2) dX5_closeLinks_51 rfl ?_
          exact ih_2 _ (by have := hl (); omega) (i + 1) (m - 1) (s + 1) (updI A s (LWT (σ 67) m)) (updI B s 0) (updI D s 0) rfl (by have := hl (); omega) (by omega) (by omega) (by have h9 := hl (); intro k a b; by_cases e : k = m - 1; (rw [e]; omega); exact hall k (by omega) b) (by have h9 := hl (); rw [hA, show s = (σ 96 15) + ((σ 57 17) - m) from hs, show LWT (σ 67) m = σ 67 ((σ 57 17) - 1 - ((σ 57 17) - m)) by (rw [show (σ 57 17) - 1 - ((σ 57 17) - m) = m - 1 by omega]; omega), rvf_s (by omega), show (σ 57 17) - m + 1 = (σ 57 17) - (m - 1) by omega]) (by rw [hB, show s = (σ 96 15) + ((σ 57 17) - m) from hs, pfl_s (by omega), show (σ 57 17) - m + 1 = (σ 57 17) - (m - 1) by omega]) (by rw [hD, show s = (σ 96 15) + ((σ 57 17) - m) from hs, pfl_s (by omega), show (σ 57 17) - m + 1 = (σ 57 17) - (m - 1) by omega])
        · skip
          refine w_aload_n (pc' := 18) (i := 0) (by rfl) (by rfl) dX5_closeLinks_17 rfl ?_
          refine v_callVE (pc' := 21) (st' := [gI (LWT (σ 67) m)]) (d' := 0) (av := []) mi_mX5_lastWaiting lk_X5_181 rfl ci_X5 kd_57 rfl (Nat.le_of_ble_eq_true rfl) (Nat.le_of_ble_eq_true rfl) dX5_closeLinks_18 rfl rfl (kl_lastWaiting (σ := gUp (gUp (gUr (gUr (gUr σ 100 A) 101 B) 102 D) 96 15 s) 57 17 m) (show 0 ≤ m ∧ m ≤ 64 by omega)) ?_
          refine w_iload_n (pc' := 22) (i := 1) (by rfl) (by rfl) dX5_closeLinks_21 rfl ?_
          refine w_icmp_ne (pc' := 25) (t := 54) dX5_closeLinks_22 rfl rfl (fun c_22 => ?_) (fun c_22 => ?_)
          · skip
            refine w_return rfl dX5_closeLinks_54 ?_
            have h9 := hl ()
            exact ⟨m, rfl, ⟨m0, hall, fun h => by omega⟩, by rw [hA, hB, hD, hs]⟩
          · skip
            refine w_aload_n (pc' := 26) (i := 0) (by rfl) (by rfl) dX5_closeLinks_25 rfl ?_
            refine v_getM (pc' := 29) (q := 96) (ji := 5) rfl fg_X5_29 kd_57 hd dX5_closeLinks_26 rfl ?_
            refine w_aload_n (pc' := 30) (i := 0) (by rfl) (by rfl) dX5_closeLinks_29 rfl ?_
            refine v_callVE (pc' := 33) (st' := [gI (LWT (σ 67) m), gR 96]) (d' := 0) (av := []) mi_mX5_lastWaiting lk_X5_181 rfl ci_X5 kd_57 rfl (Nat.le_of_ble_eq_true rfl) (Nat.le_of_ble_eq_true rfl) dX5_closeLinks_30 rfl rfl (kl_lastWaiting (σ := gUp (gUp (gUr (gUr (gUr σ 100 A) 101 B) 102 D) 96 15 s) 57 17 m) (show 0 ≤ m ∧ m ≤ 64 by omega)) ?_
            refine w_iconst (pc' := 34) (by decide) dX5_closeLinks_33 rfl ?_
            refine w_iconst (pc' := 35) (by decide) dX5_closeLinks_34 rfl ?_
            refine w_callV (pc' := 38) (d' := 0) (av := [gI (LWT (σ 67) m), gI 0, gI 0]) mi_mX4_put lk_X5_168 rfl ci_X4 kd_96 rfl (Nat.le_of_ble_eq_true rfl) (Nat.le_of_ble_eq_true rfl) dX5_closeLinks_35 rfl (kl96_put (σ := gUp (gUp (gUr (gUr (gUr σ 100 A) 101 B) 102 D) 96 15 s) 57 17 m) (LWT (σ 67) m) 0 0 (show 0 ≤ s ∧ s < 120 by first | omega | (have := hl (); omega))) (fun v_35 σ_35 q_35 => ?_)
            obtain ⟨rfl, rfl⟩ := q_35
            refine Wp.heq (σ' := gUp (gUp (gUr (gUr (gUr σ 100 (updI A s (LWT (σ 67) m))) 101 (updI B s 0)) 102 (updI D s 0)) 96 15 (s + 1)) 57 17 m) ((congrArg (fun z => gUp z 96 15 (s + 1)) ((congrArg (fun z => gUp z 102 s 0) ((congrArg (fun z => gUp z 101 s 0) ((gUp_cu (by decide)).trans (congrArg (fun z => gUp z 57 17 m) ((gUp_cu (by decide)).trans (congrArg (fun z => gUp z 96 15 s) ((gUp_cr (by decide)).trans (congrArg (fun z => gUr z 102 D) ((gUp_cr (by decide)).trans (congrArg (fun z => gUr z 101 B) gUp_row))))))))).trans ((gUp_cu (by decide)).trans (congrArg (fun z => gUp z 57 17 m) ((gUp_cu (by decide)).trans (congrArg (fun z => gUp z 96 15 s) ((gUp_cr (by decide)).trans (congrArg (fun z => gUr z 102 D) gUp_row)))))))).trans ((gUp_cu (by decide)).trans (congrArg (fun z => gUp z 57 17 m) ((gUp_cu (by decide)).trans (congrArg (fun z => gUp z 96 15 s) gUp_row)))))).trans ((gUp_cu (by decide)).trans (congrArg (fun z => gUp z 57 17 m) gUp_same))) ?_
            show Wp _ _ _ _ _ _ []
            refine w_aload_n (pc' := 39) (i := 0) (by rfl) (by rfl) dX5_closeLinks_38 rfl ?_
            refine w_dup (pc' := 40) dX5_closeLinks_39 rfl ?_
            refine v_getI (pc' := 43) (ji := 17) rfl fg_X5_156 kd_57 dX5_closeLinks_40 rfl ?_
            show Wp _ _ _ _ _ _ [gI m, gR 57]
            refine w_iconst (pc' := 44) (by decide) dX5_closeLinks_43 rfl ?_
            refine v_isub (pc' := 45) (by (first | omega | (have := hl (); omega))) dX5_closeLinks_44 rfl ?_
            refine v_putI (pc' := 48) (ji := 17) rfl fp_X5_156 kd_57 sf_X5_17 dX5_closeLinks_45 rfl ?_
            refine Wp.heq (σ' := gUp (gUp (gUr (gUr (gUr σ 100 (updI A s (LWT (σ 67) m))) 101 (updI B s 0)) 102 (updI D s 0)) 96 15 (s + 1)) 57 17 (m - 1)) gUp_same ?_
            refine v_iinc (pc' := 51) (x := i) (ls' := [gR 57, gI w, gI (i + 1)]) (by (first | omega | (have := hl (); omega))) (by decide) (by rfl) (by rfl) dX5_closeLinks_48 rfl ?_
            refine w_goto (pc' := 2) dX5_closeLinks_51 rfl ?_
            exact ih_2 _ (by have := hl (); omega) (i + 1) (m - 1) (s + 1) (updI A s (LWT (σ 67) m)) (updI B s 0) (updI D s 0) rfl (by have := hl (); omega) (by omega) (by omega) (by have h9 := hl (); intro k a b; by_cases e : k = m - 1; (rw [e]; omega); exact hall k (by omega) b) (by have h9 := hl (); rw [hA, show s = (σ 96 15) + ((σ 57 17) - m) from hs, show LWT (σ 67) m = σ 67 ((σ 57 17) - 1 - ((σ 57 17) - m)) by (rw [show (σ 57 17) - 1 - ((σ 57 17) - m) = m - 1 by omega]; omega), rvf_s (by omega), show (σ 57 17) - m + 1 = (σ 57 17) - (m - 1) by omega]) (by rw [hB, show s = (σ 96 15) + ((σ 57 17) - m) from hs, pfl_s (by omega), show (σ 57 17) - m + 1 = (σ 57 17) - (m - 1) by omega]) (by rw [hD, show s = (σ 96 15) + ((σ 57 17) - m) from hs, pfl_s (by omega), show (σ 57 17) - m + 1 = (σ 57 17) - (m - 1) by omega])
  refine Wp.heq (σ' := gUp (gUp (gUr (gUr (gUr σ 100 (σ 100)) 101 (σ 101)) 102 (σ 102)) 96 15 (σ 96 15)) 57 17 (σ 57 17)) rowsL96 ?_
  exact hl_2 _ 0 (σ 57 17) (σ 96 15) (σ 100) (σ 101) (σ 102) rfl (by omega) (by omega) (by omega) (by intro k a b; omega) (by rw [Int.sub_self]; exact rvf_0.symm) (by rw [Int.sub_self]; exact pfl_0.symm) (by rw [Int.sub_self]; exact pfl_0.symm)
theorem rowsL103 {σ : gH} : σ = gUp (gUp (gUr (gUr (gUr σ 107 (σ 107)) 108 (σ 108)) 109 (σ 109)) 103 15 (σ 103 15)) 57 17 (σ 57 17) := by
  rw [show gUr σ 107 (σ 107) = σ from gUr_id, show gUr σ 108 (σ 108) = σ from gUr_id, show gUr σ 109 (σ 109) = σ from gUr_id, show gUp σ 103 15 (σ 103 15) = σ from gUp_id, show gUp σ 57 17 (σ 57 17) = σ from gUp_id]
theorem kl103_closeLinks {σ : gH} (hd : σ 57 5 = 103) (w : Int) (hw : 0 ≤ w) (ht : 0 ≤ (σ 57 17) ∧ (σ 57 17) ≤ 64) (hs0 : 0 ≤ (σ 103 15) ∧ (σ 103 15) + (σ 57 17) ≤ 120) : Mt mX5_closeLinks 1 [gR 57, gI w] σ (fun v σ' => ∃ m, v = gX 1 ∧ LKS (σ 67) w (σ 57 17) m ∧ σ' = gUp (gUp (gUr (gUr (gUr σ 107 (rvf (σ 107) (σ 103 15) ((σ 57 17) - m) (σ 67) (σ 57 17))) 108 (pfl (σ 108) (σ 103 15) ((σ 57 17) - m) 0)) 109 (pfl (σ 109) (σ 103 15) ((σ 57 17) - m) 0)) 103 15 ((σ 103 15) + ((σ 57 17) - m))) 57 17 m) := by
  refine Mt.walk (ls := [gR 57, gI w, gX 1]) pn_X5 rfl (fun _ _ h => by obtain ⟨_, h, _⟩ := h; cases h) (Nat.le_of_ble_eq_true rfl) rfl ?_
  refine w_iconst (pc' := 1) (by decide) dX5_closeLinks_0 rfl ?_
  refine w_istore_n (pc' := 2) (i := 2) (ls' := [gR 57, gI w, gI 0]) (by rfl) (by decide) (by rfl) dX5_closeLinks_1 rfl ?_
  have hl_2 : ∀ (mm : Nat) (i m s : Int) (A B D : Int → Int), m.toNat = mm → (0 ≤ m ∧ m ≤ (σ 57 17)) → (i = (σ 57 17) - m) → (s = (σ 103 15) + ((σ 57 17) - m)) → (∀ k, m ≤ k → k < (σ 57 17) → σ 67 k = 15 ∨ σ 67 k = w) → (A = rvf (σ 107) (σ 103 15) ((σ 57 17) - m) (σ 67) (σ 57 17)) → (B = pfl (σ 108) (σ 103 15) ((σ 57 17) - m) 0) → (D = pfl (σ 109) (σ 103 15) ((σ 57 17) - m) 0) → Wp mX5_closeLinks 1 (fun v σ' => ∃ m, v = gX 1 ∧ LKS (σ 67) w (σ 57 17) m ∧ σ' = gUp (gUp (gUr (gUr (gUr σ 107 (rvf (σ 107) (σ 103 15) ((σ 57 17) - m) (σ 67) (σ 57 17))) 108 (pfl (σ 108) (σ 103 15) ((σ 57 17) - m) 0)) 109 (pfl (σ 109) (σ 103 15) ((σ 57 17) - m) 0)) 103 15 ((σ 103 15) + ((σ 57 17) - m))) 57 17 m) (gUp (gUp (gUr (gUr (gUr σ 107 A) 108 B) 109 D) 103 15 s) 57 17 m) 2 [gR 57, gI w, gI i] [] := by
    intro m_2
    induction m_2 using Nat.strongRecOn with
    | _ m_2 ih_2 =>
      intro i m s A B D hmeas_2 m0 hi hs hall hA hB hD
      have hl : ∀ _ : Unit, _ := fun _ => LWT_in (σ 67) m
      refine w_iload_n (pc' := 3) (i := 2) (by rfl) (by rfl) dX5_closeLinks_2 rfl ?_
      refine w_bipush (pc' := 5) (by decide) (by decide) dX5_closeLinks_3 rfl ?_
      refine w_icmp_ge (pc' := 8) (t := 54) dX5_closeLinks_5 rfl rfl (fun c_5 => ?_) (fun c_5 => ?_)
      · skip
        refine w_return rfl dX5_closeLinks_54 ?_
        have h9 := hl ()
        exact ⟨m, rfl, ⟨m0, hall, fun h => by omega⟩, by rw [hA, hB, hD, hs]⟩
      · skip
        refine w_aload_n (pc' := 9) (i := 0) (by rfl) (by rfl) dX5_closeLinks_8 rfl ?_
        refine v_callVE (pc' := 12) (st' := [gI (LWT (σ 67) m)]) (d' := 0) (av := []) mi_mX5_lastWaiting lk_X5_181 rfl ci_X5 kd_57 rfl (Nat.le_of_ble_eq_true rfl) (Nat.le_of_ble_eq_true rfl) dX5_closeLinks_9 rfl rfl (kl_lastWaiting (σ := gUp (gUp (gUr (gUr (gUr σ 107 A) 108 B) 109 D) 103 15 s) 57 17 m) (show 0 ≤ m ∧ m ≤ 64 by omega)) ?_
        refine w_bipush (pc' := 14) (by decide) (by decide) dX5_closeLinks_12 rfl ?_
        refine w_icmp_eq (pc' := 17) (t := 25) dX5_closeLinks_14 rfl rfl (fun c_14 => ?_) (fun c_14 => ?_)
        · skip
          refine w_aload_n (pc' := 26) (i := 0) (by rfl) (by rfl) dX5_closeLinks_25 rfl ?_
          refine v_getM (pc' := 29) (q := 103) (ji := 5) rfl fg_X5_29 kd_57 hd dX5_closeLinks_26 rfl ?_
          refine w_aload_n (pc' := 30) (i := 0) (by rfl) (by rfl) dX5_closeLinks_29 rfl ?_
          refine v_callVE (pc' := 33) (st' := [gI (LWT (σ 67) m), gR 103]) (d' := 0) (av := []) mi_mX5_lastWaiting lk_X5_181 rfl ci_X5 kd_57 rfl (Nat.le_of_ble_eq_true rfl) (Nat.le_of_ble_eq_true rfl) dX5_closeLinks_30 rfl rfl (kl_lastWaiting (σ := gUp (gUp (gUr (gUr (gUr σ 107 A) 108 B) 109 D) 103 15 s) 57 17 m) (show 0 ≤ m ∧ m ≤ 64 by omega)) ?_
          refine w_iconst (pc' := 34) (by decide) dX5_closeLinks_33 rfl ?_
          refine w_iconst (pc' := 35) (by decide) dX5_closeLinks_34 rfl ?_
          refine w_callV (pc' := 38) (d' := 0) (av := [gI (LWT (σ 67) m), gI 0, gI 0]) mi_mX4_put lk_X5_168 rfl ci_X4 kd_103 rfl (Nat.le_of_ble_eq_true rfl) (Nat.le_of_ble_eq_true rfl) dX5_closeLinks_35 rfl (kl103_put (σ := gUp (gUp (gUr (gUr (gUr σ 107 A) 108 B) 109 D) 103 15 s) 57 17 m) (LWT (σ 67) m) 0 0 (show 0 ≤ s ∧ s < 120 by first | omega | (have := hl (); omega))) (fun v_35 σ_35 q_35 => ?_)
          obtain ⟨rfl, rfl⟩ := q_35
          refine Wp.heq (σ' := gUp (gUp (gUr (gUr (gUr σ 107 (updI A s (LWT (σ 67) m))) 108 (updI B s 0)) 109 (updI D s 0)) 103 15 (s + 1)) 57 17 m) ((congrArg (fun z => gUp z 103 15 (s + 1)) ((congrArg (fun z => gUp z 109 s 0) ((congrArg (fun z => gUp z 108 s 0) ((gUp_cu (by decide)).trans (congrArg (fun z => gUp z 57 17 m) ((gUp_cu (by decide)).trans (congrArg (fun z => gUp z 103 15 s) ((gUp_cr (by decide)).trans (congrArg (fun z => gUr z 109 D) ((gUp_cr (by decide)).trans (congrArg (fun z => gUr z 108 B) gUp_row))))))))).trans ((gUp_cu (by decide)).trans (congrArg (fun z => gUp z 57 17 m) ((gUp_cu (by decide)).trans (congrArg (fun z => gUp z 103 15 s) ((gUp_cr (by decide)).trans (congrArg (fun z => gUr z 109 D) gUp_row)))))))).trans ((gUp_cu (by decide)).trans (congrArg (fun z => gUp z 57 17 m) ((gUp_cu (by decide)).trans (congrArg (fun z => gUp z 103 15 s) gUp_row)))))).trans ((gUp_cu (by decide)).trans (congrArg (fun z => gUp z 57 17 m) gUp_same))) ?_
          show Wp _ _ _ _ _ _ []
          refine w_aload_n (pc' := 39) (i := 0) (by rfl) (by rfl) dX5_closeLinks_38 rfl ?_
          refine w_dup (pc' := 40) dX5_closeLinks_39 rfl ?_
          refine v_getI (pc' := 43) (ji := 17) rfl fg_X5_156 kd_57 dX5_closeLinks_40 rfl ?_
          show Wp _ _ _ _ _ _ [gI m, gR 57]
          refine w_iconst (pc' := 44) (by decide) dX5_closeLinks_43 rfl ?_
          refine v_isub (pc' := 45) (by (first | omega | (have := hl (); omega))) dX5_closeLinks_44 rfl ?_
          refine v_putI (pc' := 48) (ji := 17) rfl fp_X5_156 kd_57 sf_X5_17 dX5_closeLinks_45 rfl ?_
          refine Wp.heq (σ' := gUp (gUp (gUr (gUr (gUr σ 107 (updI A s (LWT (σ 67) m))) 108 (updI B s 0)) 109 (updI D s 0)) 103 15 (s + 1)) 57 17 (m - 1)) gUp_same ?_
          refine v_iinc (pc' := 51) (x := i) (ls' := [gR 57, gI w, gI (i + 1)]) (by (first | omega | (have := hl (); omega))) (by decide) (by rfl) (by rfl) dX5_closeLinks_48 rfl ?_
          refine w_goto (pc' := 2) dX5_closeLinks_51 rfl ?_
          exact ih_2 _ (by have := hl (); omega) (i + 1) (m - 1) (s + 1) (updI A s (LWT (σ 67) m)) (updI B s 0) (updI D s 0) rfl (by have := hl (); omega) (by omega) (by omega) (by have h9 := hl (); intro k a b; by_cases e : k = m - 1; (rw [e]; omega); exact hall k (by omega) b) (by have h9 := hl (); rw [hA, show s = (σ 103 15) + ((σ 57 17) - m) from hs, show LWT (σ 67) m = σ 67 ((σ 57 17) - 1 - ((σ 57 17) - m)) by (rw [show (σ 57 17) - 1 - ((σ 57 17) - m) = m - 1 by omega]; omega), rvf_s (by omega), show (σ 57 17) - m + 1 = (σ 57 17) - (m - 1) by omega]) (by rw [hB, show s = (σ 103 15) + ((σ 57 17) - m) from hs, pfl_s (by omega), show (σ 57 17) - m + 1 = (σ 57 17) - (m - 1) by omega]) (by rw [hD, show s = (σ 103 15) + ((σ 57 17) - m) from hs, pfl_s (by omega), show (σ 57 17) - m + 1 = (σ 57 17) - (m - 1) by omega])
        · skip
          refine w_aload_n (pc' := 18) (i := 0) (by rfl) (by rfl) dX5_closeLinks_17 rfl ?_
          refine v_callVE (pc' := 21) (st' := [gI (LWT (σ 67) m)]) (d' := 0) (av := []) mi_mX5_lastWaiting lk_X5_181 rfl ci_X5 kd_57 rfl (Nat.le_of_ble_eq_true rfl) (Nat.le_of_ble_eq_true rfl) dX5_closeLinks_18 rfl rfl (kl_lastWaiting (σ := gUp (gUp (gUr (gUr (gUr σ 107 A) 108 B) 109 D) 103 15 s) 57 17 m) (show 0 ≤ m ∧ m ≤ 64 by omega)) ?_
          refine w_iload_n (pc' := 22) (i := 1) (by rfl) (by rfl) dX5_closeLinks_21 rfl ?_
          refine w_icmp_ne (pc' := 25) (t := 54) dX5_closeLinks_22 rfl rfl (fun c_22 => ?_) (fun c_22 => ?_)
          · skip
            refine w_return rfl dX5_closeLinks_54 ?_
            have h9 := hl ()
            exact ⟨m, rfl, ⟨m0, hall, fun h => by omega⟩, by rw [hA, hB, hD, hs]⟩
          · skip
            refine w_aload_n (pc' := 26) (i := 0) (by rfl) (by rfl) dX5_closeLinks_25 rfl ?_
            refine v_getM (pc' := 29) (q := 103) (ji := 5) rfl fg_X5_29 kd_57 hd dX5_closeLinks_26 rfl ?_
            refine w_aload_n (pc' := 30) (i := 0) (by rfl) (by rfl) dX5_closeLinks_29 rfl ?_
            refine v_callVE (pc' := 33) (st' := [gI (LWT (σ 67) m), gR 103]) (d' := 0) (av := []) mi_mX5_lastWaiting lk_X5_181 rfl ci_X5 kd_57 rfl (Nat.le_of_ble_eq_true rfl) (Nat.le_of_ble_eq_true rfl) dX5_closeLinks_30 rfl rfl (kl_lastWaiting (σ := gUp (gUp (gUr (gUr (gUr σ 107 A) 108 B) 109 D) 103 15 s) 57 17 m) (show 0 ≤ m ∧ m ≤ 64 by omega)) ?_
            refine w_iconst (pc' := 34) (by decide) dX5_closeLinks_33 rfl ?_
            refine w_iconst (pc' := 35) (by decide) dX5_closeLinks_34 rfl ?_
            refine w_callV (pc' := 38) (d' := 0) (av := [gI (LWT (σ 67) m), gI 0, gI 0]) mi_mX4_put lk_X5_168 rfl ci_X4 kd_103 rfl (Nat.le_of_ble_eq_true rfl) (Nat.le_of_ble_eq_true rfl) dX5_closeLinks_35 rfl (kl103_put (σ := gUp (gUp (gUr (gUr (gUr σ 107 A) 108 B) 109 D) 103 15 s) 57 17 m) (LWT (σ 67) m) 0 0 (show 0 ≤ s ∧ s < 120 by first | omega | (have := hl (); omega))) (fun v_35 σ_35 q_35 => ?_)
            obtain ⟨rfl, rfl⟩ := q_35
            refine Wp.heq (σ' := gUp (gUp (gUr (gUr (gUr σ 107 (updI A s (LWT (σ 67) m))) 108 (updI B s 0)) 109 (updI D s 0)) 103 15 (s + 1)) 57 17 m) ((congrArg (fun z => gUp z 103 15 (s + 1)) ((congrArg (fun z => gUp z 109 s 0) ((congrArg (fun z => gUp z 108 s 0) ((gUp_cu (by decide)).trans (congrArg (fun z => gUp z 57 17 m) ((gUp_cu (by decide)).trans (congrArg (fun z => gUp z 103 15 s) ((gUp_cr (by decide)).trans (congrArg (fun z => gUr z 109 D) ((gUp_cr (by decide)).trans (congrArg (fun z => gUr z 108 B) gUp_row))))))))).trans ((gUp_cu (by decide)).trans (congrArg (fun z => gUp z 57 17 m) ((gUp_cu (by decide)).trans (congrArg (fun z => gUp z 103 15 s) ((gUp_cr (by decide)).trans (congrArg (fun z => gUr z 109 D) gUp_row)))))))).trans ((gUp_cu (by decide)).trans (congrArg (fun z => gUp z 57 17 m) ((gUp_cu (by decide)).trans (congrArg (fun z => gUp z 103 15 s) gUp_row)))))).trans ((gUp_cu (by decide)).trans (congrArg (fun z => gUp z 57 17 m) gUp_same))) ?_
            show Wp _ _ _ _ _ _ []
            refine w_aload_n (pc' := 39) (i := 0) (by rfl) (by rfl) dX5_closeLinks_38 rfl ?_
            refine w_dup (pc' := 40) dX5_closeLinks_39 rfl ?_
            refine v_getI (pc' := 43) (ji := 17) rfl fg_X5_156 kd_57 dX5_closeLinks_40 rfl ?_
            show Wp _ _ _ _ _ _ [gI m, gR 57]
            refine w_iconst (pc' := 44) (by decide) dX5_closeLinks_43 rfl ?_
            refine v_isub (pc' := 45) (by (first | omega | (have := hl (); omega))) dX5_closeLinks_44 rfl ?_
            refine v_putI (pc' := 48) (ji := 17) rfl fp_X5_156 kd_57 sf_X5_17 dX5_closeLinks_45 rfl ?_
            refine Wp.heq (σ' := gUp (gUp (gUr (gUr (gUr σ 107 (updI A s (LWT (σ 67) m))) 108 (updI B s 0)) 109 (updI D s 0)) 103 15 (s + 1)) 57 17 (m - 1)) gUp_same ?_
            refine v_iinc (pc' := 51) (x := i) (ls' := [gR 57, gI w, gI (i + 1)]) (by (first | omega | (have := hl (); omega))) (by decide) (by rfl) (by rfl) dX5_closeLinks_48 rfl ?_
            refine w_goto (pc' := 2) dX5_closeLinks_51 rfl ?_
            exact ih_2 _ (by have := hl (); omega) (i + 1) (m - 1) (s + 1) (updI A s (LWT (σ 67) m)) (updI B s 0) (updI D s 0) rfl (by have := hl (); omega) (by omega) (by omega) (by have h9 := hl (); intro k a b; by_cases e : k = m - 1; (rw [e]; omega); exact hall k (by omega) b) (by have h9 := hl (); rw [hA, show s = (σ 103 15) + ((σ 57 17) - m) from hs, show LWT (σ 67) m = σ 67 ((σ 57 17) - 1 - ((σ 57 17) - m)) by (rw [show (σ 57 17) - 1 - ((σ 57 17) - m) = m - 1 by omega]; omega), rvf_s (by omega), show (σ 57 17) - m + 1 = (σ 57 17) - (m - 1) by omega]) (by rw [hB, show s = (σ 103 15) + ((σ 57 17) - m) from hs, pfl_s (by omega), show (σ 57 17) - m + 1 = (σ 57 17) - (m - 1) by omega]) (by rw [hD, show s = (σ 103 15) + ((σ 57 17) - m) from hs, pfl_s (by omega), show (σ 57 17) - m + 1 = (σ 57 17) - (m - 1) by omega])
  refine Wp.heq (σ' := gUp (gUp (gUr (gUr (gUr σ 107 (σ 107)) 108 (σ 108)) 109 (σ 109)) 103 15 (σ 103 15)) 57 17 (σ 57 17)) rowsL103 ?_
  exact hl_2 _ 0 (σ 57 17) (σ 103 15) (σ 107) (σ 108) (σ 109) rfl (by omega) (by omega) (by omega) (by intro k a b; omega) (by rw [Int.sub_self]; exact rvf_0.symm) (by rw [Int.sub_self]; exact pfl_0.symm) (by rw [Int.sub_self]; exact pfl_0.symm)
