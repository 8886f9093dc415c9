/-! the reference reads a law: its pile (gen/mod_mpl.py) -/
theorem mp_emit {σ : gH} (x : Int) (hp : 0 ≤ σ 133 83 ∧ σ 133 83 < 200) : Mt mX12_emit 0 [gR 133, gI x] σ (rE (gX 1) (gUp (gUp σ 180 (1200 + σ 133 83) x) 133 83 (σ 133 83 + 1))) := by
  refine Mt.walk (ls := [gR 133, gI x]) pn_X12 rfl (fun _ _ h => by cases h.1) (Nat.le_of_ble_eq_true rfl) rfl ?_
  refine w_aload_n (pc' := 1) (i := 0) (by rfl) (by rfl) dX12_emit_0 rfl ?_
  refine w_getS (pc' := 4) (q := 180) fg_X12_160 kd_133 sf_X12_71 gr_133_71 dX12_emit_1 rfl ?_
  refine w_sipush (pc' := 7) (by decide) (by decide) dX12_emit_4 rfl ?_
  refine w_aload_n (pc' := 8) (i := 0) (by rfl) (by rfl) dX12_emit_7 rfl ?_
  refine v_getI (pc' := 11) (ji := 83) rfl fg_X12_426 kd_133 dX12_emit_8 rfl ?_
  refine v_iadd (pc' := 12) (by omega) dX12_emit_11 rfl ?_
  refine w_iload_n (pc' := 13) (i := 1) (by rfl) (by rfl) dX12_emit_12 rfl ?_
  refine w_iast (pc' := 14) kd_180 (by omega) (by omega) dX12_emit_13 rfl ?_
  refine w_aload_n (pc' := 15) (i := 0) (by rfl) (by rfl) dX12_emit_14 rfl ?_
  refine w_dup (pc' := 16) dX12_emit_15 rfl ?_
  refine v_getI (pc' := 19) (ji := 83) rfl fg_X12_426 kd_133 dX12_emit_16 rfl ?_
  show Wp _ _ _ _ _ _ [gI (σ 133 83), gR 133]
  refine w_iconst (pc' := 20) (by decide) dX12_emit_19 rfl ?_
  refine v_iadd (pc' := 21) (by omega) dX12_emit_20 rfl ?_
  refine v_putI (pc' := 24) (ji := 83) rfl fp_X12_426 kd_133 sf_X12_83 dX12_emit_21 rfl ?_
  refine w_return rfl dX12_emit_24 ?_
  exact ⟨rfl, rfl⟩
theorem mp_drop {σ : gH} (ht : 0 < σ 133 79 ∧ σ 133 79 ≤ 140) (hp : 0 ≤ σ 133 83 ∧ σ 133 83 < 200) : Mt mX12_drop 1 [gR 133] σ (rE (gX 1) (gUp (gUp (gUp σ 133 79 (σ 133 79 - 1)) 180 (1200 + (σ 133 83)) (σ 186 (σ 133 79 - 1))) 133 83 ((σ 133 83) + 1))) := by
  refine Mt.walk (ls := [gR 133]) pn_X12 rfl (fun _ _ h => by cases h.1) (Nat.le_of_ble_eq_true rfl) rfl ?_
  refine w_aload_n (pc' := 1) (i := 0) (by rfl) (by rfl) dX12_drop_0 rfl ?_
  refine w_dup (pc' := 2) dX12_drop_1 rfl ?_
  refine v_getI (pc' := 5) (ji := 79) rfl fg_X12_429 kd_133 dX12_drop_2 rfl ?_
  refine w_iconst (pc' := 6) (by decide) dX12_drop_5 rfl ?_
  refine v_isub (pc' := 7) (by omega) dX12_drop_6 rfl ?_
  refine v_putI (pc' := 10) (ji := 79) rfl fp_X12_429 kd_133 sf_X12_79 dX12_drop_7 rfl ?_
  refine w_aload_n (pc' := 11) (i := 0) (by rfl) (by rfl) dX12_drop_10 rfl ?_
  refine w_aload_n (pc' := 12) (i := 0) (by rfl) (by rfl) dX12_drop_11 rfl ?_
  refine w_getS (pc' := 15) (q := 186) fg_X12_178 kd_133 sf_X12_78 gr_133_78 dX12_drop_12 rfl ?_
  refine w_aload_n (pc' := 16) (i := 0) (by rfl) (by rfl) dX12_drop_15 rfl ?_
  refine v_getI (pc' := 19) (ji := 79) rfl fg_X12_429 kd_133 dX12_drop_16 rfl ?_
  show Wp _ _ _ _ _ _ [gI ((σ 133 79) - 1), gR 186, gR 133]
  refine w_iald (pc' := 20) kd_186 (by omega) (by omega) dX12_drop_19 rfl ?_
  show Wp _ _ _ _ _ _ [gI (σ 186 ((σ 133 79) - 1)), gR 133]
  refine w_callV (pc' := 23) (d' := 0) (av := [gI (σ 186 ((σ 133 79) - 1))]) mi_mX12_emit lk_X12_432 rfl ci_X12 kd_133 rfl (Nat.le_of_ble_eq_true rfl) (Nat.le_of_ble_eq_true rfl) dX12_drop_20 rfl (mp_emit (σ := gUp σ 133 79 ((σ 133 79) - 1)) (σ 186 ((σ 133 79) - 1)) (show 0 ≤ σ 133 83 ∧ σ 133 83 < 200 by omega)) (fun v_20 σ_20 q_20 => ?_)
  obtain ⟨rfl, rfl⟩ := q_20
  refine Wp.heq (σ' := gUp (gUp (gUp σ 133 79 ((σ 133 79) - 1)) 180 (1200 + (σ 133 83)) (σ 186 ((σ 133 79) - 1))) 133 83 ((σ 133 83) + 1)) ((congrArg (fun z => gUp z 133 83 ((σ 133 83) + 1)) rfl).trans rfl) ?_
  show Wp _ _ _ _ _ _ []
  refine w_return rfl dX12_drop_23 ?_
  exact ⟨rfl, rfl⟩
/-- a mark laid on the pile -/
def PSH (σ : gH) (x : Int) : gH := gUp (gUp (gUp (gUp σ 186 (σ 133 79) x) 133 79 (σ 133 79 + 1)) 133 80 (if x = 20 ∨ x = 23 then σ 133 80 + 1 else σ 133 80)) 133 81 (if x = 23 then σ 133 81 + 1 else σ 133 81)
theorem mp_push {σ : gH} (hL : σ 133 54 ≤ 540) (h0 : 0 ≤ σ 133 55 ∧ σ 133 55 ≤ σ 133 54) (x : Int) (hx : 20 ≤ x ∧ x ≤ 23) (ht : 0 ≤ σ 133 79 ∧ σ 133 79 < 140) (ho : 0 ≤ σ 133 80 ∧ σ 133 80 < 140) (hb : 0 ≤ σ 133 81 ∧ σ 133 81 < 140) : Mt mX12_push 2 [gR 133, gI x] σ (fun v σ' => v = gX 1 ∧ KG (PSH σ x) σ' ∧ MTK (σ 134) (σ 133 54) (σ 133 55) σ') := by
  refine Mt.walk (ls := [gR 133, gI x]) pn_X12 rfl (fun _ _ h => by cases h.1) (Nat.le_of_ble_eq_true rfl) rfl ?_
  refine w_aload_n (pc' := 1) (i := 0) (by rfl) (by rfl) dX12_push_0 rfl ?_
  refine w_getS (pc' := 4) (q := 186) fg_X12_178 kd_133 sf_X12_78 gr_133_78 dX12_push_1 rfl ?_
  refine w_aload_n (pc' := 5) (i := 0) (by rfl) (by rfl) dX12_push_4 rfl ?_
  refine v_getI (pc' := 8) (ji := 79) rfl fg_X12_429 kd_133 dX12_push_5 rfl ?_
  refine w_iload_n (pc' := 9) (i := 1) (by rfl) (by rfl) dX12_push_8 rfl ?_
  refine w_iast (pc' := 10) kd_186 (by omega) (by omega) dX12_push_9 rfl ?_
  refine w_aload_n (pc' := 11) (i := 0) (by rfl) (by rfl) dX12_push_10 rfl ?_
  refine w_dup (pc' := 12) dX12_push_11 rfl ?_
  refine v_getI (pc' := 15) (ji := 79) rfl fg_X12_429 kd_133 dX12_push_12 rfl ?_
  show Wp _ _ _ _ _ _ [gI (σ 133 79), gR 133]
  refine w_iconst (pc' := 16) (by decide) dX12_push_15 rfl ?_
  refine v_iadd (pc' := 17) (by omega) dX12_push_16 rfl ?_
  refine v_putI (pc' := 20) (ji := 79) rfl fp_X12_429 kd_133 sf_X12_79 dX12_push_17 rfl ?_
  refine w_iload_n (pc' := 21) (i := 1) (by rfl) (by rfl) dX12_push_20 rfl ?_
  refine w_bipush (pc' := 23) (by decide) (by decide) dX12_push_21 rfl ?_
  refine w_icmp_eq (pc' := 26) (t := 32) dX12_push_23 rfl rfl (fun c_23 => ?_) (fun c_23 => ?_)
  · skip
    refine w_aload_n (pc' := 33) (i := 0) (by rfl) (by rfl) dX12_push_32 rfl ?_
    refine w_dup (pc' := 34) dX12_push_33 rfl ?_
    refine v_getI (pc' := 37) (ji := 80) rfl fg_X12_438 kd_133 dX12_push_34 rfl ?_
    show Wp _ _ _ _ _ _ [gI (σ 133 80), gR 133]
    refine w_iconst (pc' := 38) (by decide) dX12_push_37 rfl ?_
    refine v_iadd (pc' := 39) (by omega) dX12_push_38 rfl ?_
    refine v_putI (pc' := 42) (ji := 80) rfl fp_X12_438 kd_133 sf_X12_80 dX12_push_39 rfl ?_
    refine w_iload_n (pc' := 43) (i := 1) (by rfl) (by rfl) dX12_push_42 rfl ?_
    refine w_bipush (pc' := 45) (by decide) (by decide) dX12_push_43 rfl ?_
    refine w_icmp_ne (pc' := 48) (t := 58) dX12_push_45 rfl rfl (fun c_45 => ?_) (fun c_45 => ?_)
    · skip
      have hP : gUp (gUp (gUp σ 186 (σ 133 79) x) 133 79 ((σ 133 79) + 1)) 133 80 ((σ 133 80) + 1) = PSH σ x := by
        unfold PSH
        rw [if_pos (by omega)]
        rw [if_neg (by omega)]; exact (gUp_id (σ := gUp (gUp (gUp σ 186 (σ 133 79) x) 133 79 ((σ 133 79) + 1)) 133 80 ((σ 133 80) + 1)) (k := 133) (i := 81)).symm
      refine w_aload_n (pc' := 59) (i := 0) (by rfl) (by rfl) dX12_push_58 rfl ?_
      refine w_callV (pc' := 62) (d' := 1) (av := []) mi_mX12_go lk_X12_444 rfl ci_X12 kd_133 rfl (Nat.le_of_ble_eq_true rfl) (Nat.le_of_ble_eq_true rfl) dX12_push_59 rfl (mg_go (σ := gUp (gUp (gUp σ 186 (σ 133 79) x) 133 79 ((σ 133 79) + 1)) 133 80 ((σ 133 80) + 1)) (show σ 133 54 ≤ 540 by omega) (show 0 ≤ σ 133 55 ∧ σ 133 55 ≤ σ 133 54 by omega)) (fun v_59 σ59 q_59 => ?_)
      obtain ⟨rfl, hk_59, ht_59⟩ := q_59
      show Wp _ _ _ _ _ _ []
      refine w_return rfl dX12_push_62 ?_
      exact ⟨rfl, hP ▸ hk_59, ht_59⟩
    · skip
      refine w_aload_n (pc' := 49) (i := 0) (by rfl) (by rfl) dX12_push_48 rfl ?_
      refine w_dup (pc' := 50) dX12_push_49 rfl ?_
      refine v_getI (pc' := 53) (ji := 81) rfl fg_X12_441 kd_133 dX12_push_50 rfl ?_
      show Wp _ _ _ _ _ _ [gI (σ 133 81), gR 133]
      refine w_iconst (pc' := 54) (by decide) dX12_push_53 rfl ?_
      refine v_iadd (pc' := 55) (by omega) dX12_push_54 rfl ?_
      refine v_putI (pc' := 58) (ji := 81) rfl fp_X12_441 kd_133 sf_X12_81 dX12_push_55 rfl ?_
      have hP : gUp (gUp (gUp (gUp σ 186 (σ 133 79) x) 133 79 ((σ 133 79) + 1)) 133 80 ((σ 133 80) + 1)) 133 81 ((σ 133 81) + 1) = PSH σ x := by
        unfold PSH
        rw [if_pos (by omega)]
        rw [if_pos (by omega)]
      refine w_aload_n (pc' := 59) (i := 0) (by rfl) (by rfl) dX12_push_58 rfl ?_
      refine w_callV (pc' := 62) (d' := 1) (av := []) mi_mX12_go lk_X12_444 rfl ci_X12 kd_133 rfl (Nat.le_of_ble_eq_true rfl) (Nat.le_of_ble_eq_true rfl) dX12_push_59 rfl (mg_go (σ := gUp (gUp (gUp (gUp σ 186 (σ 133 79) x) 133 79 ((σ 133 79) + 1)) 133 80 ((σ 133 80) + 1)) 133 81 ((σ 133 81) + 1)) (show σ 133 54 ≤ 540 by omega) (show 0 ≤ σ 133 55 ∧ σ 133 55 ≤ σ 133 54 by omega)) (fun v_59 σ59 q_59 => ?_)
      obtain ⟨rfl, hk_59, ht_59⟩ := q_59
      show Wp _ _ _ _ _ _ []
      refine w_return rfl dX12_push_62 ?_
      exact ⟨rfl, hP ▸ hk_59, ht_59⟩
  · skip
    refine w_iload_n (pc' := 27) (i := 1) (by rfl) (by rfl) dX12_push_26 rfl ?_
    refine w_bipush (pc' := 29) (by decide) (by decide) dX12_push_27 rfl ?_
    refine w_icmp_ne (pc' := 32) (t := 42) dX12_push_29 rfl rfl (fun c_29 => ?_) (fun c_29 => ?_)
    · skip
      refine w_iload_n (pc' := 43) (i := 1) (by rfl) (by rfl) dX12_push_42 rfl ?_
      refine w_bipush (pc' := 45) (by decide) (by decide) dX12_push_43 rfl ?_
      refine w_icmp_ne (pc' := 48) (t := 58) dX12_push_45 rfl rfl (fun c_45 => ?_) (fun c_45 => ?_)
      · skip
        have hP : gUp (gUp σ 186 (σ 133 79) x) 133 79 ((σ 133 79) + 1) = PSH σ x := by
          unfold PSH
          rw [if_neg (by omega), show gUp (gUp (gUp σ 186 (σ 133 79) x) 133 79 (σ 133 79 + 1)) 133 80 (σ 133 80) = gUp (gUp σ 186 (σ 133 79) x) 133 79 (σ 133 79 + 1) from gUp_id (σ := gUp (gUp σ 186 (σ 133 79) x) 133 79 (σ 133 79 + 1)) (k := 133) (i := 80)]
          rw [if_neg (by omega)]; exact (gUp_id (σ := gUp (gUp σ 186 (σ 133 79) x) 133 79 ((σ 133 79) + 1)) (k := 133) (i := 81)).symm
        refine w_aload_n (pc' := 59) (i := 0) (by rfl) (by rfl) dX12_push_58 rfl ?_
        refine w_callV (pc' := 62) (d' := 1) (av := []) mi_mX12_go lk_X12_444 rfl ci_X12 kd_133 rfl (Nat.le_of_ble_eq_true rfl) (Nat.le_of_ble_eq_true rfl) dX12_push_59 rfl (mg_go (σ := gUp (gUp σ 186 (σ 133 79) x) 133 79 ((σ 133 79) + 1)) (show σ 133 54 ≤ 540 by omega) (show 0 ≤ σ 133 55 ∧ σ 133 55 ≤ σ 133 54 by omega)) (fun v_59 σ59 q_59 => ?_)
        obtain ⟨rfl, hk_59, ht_59⟩ := q_59
        show Wp _ _ _ _ _ _ []
        refine w_return rfl dX12_push_62 ?_
        exact ⟨rfl, hP ▸ hk_59, ht_59⟩
      · skip
        refine w_aload_n (pc' := 49) (i := 0) (by rfl) (by rfl) dX12_push_48 rfl ?_
        refine w_dup (pc' := 50) dX12_push_49 rfl ?_
        refine v_getI (pc' := 53) (ji := 81) rfl fg_X12_441 kd_133 dX12_push_50 rfl ?_
        show Wp _ _ _ _ _ _ [gI (σ 133 81), gR 133]
        refine w_iconst (pc' := 54) (by decide) dX12_push_53 rfl ?_
        refine v_iadd (pc' := 55) (by omega) dX12_push_54 rfl ?_
        refine v_putI (pc' := 58) (ji := 81) rfl fp_X12_441 kd_133 sf_X12_81 dX12_push_55 rfl ?_
        have hP : gUp (gUp (gUp σ 186 (σ 133 79) x) 133 79 ((σ 133 79) + 1)) 133 81 ((σ 133 81) + 1) = PSH σ x := by
          unfold PSH
          rw [if_neg (by omega), show gUp (gUp (gUp σ 186 (σ 133 79) x) 133 79 (σ 133 79 + 1)) 133 80 (σ 133 80) = gUp (gUp σ 186 (σ 133 79) x) 133 79 (σ 133 79 + 1) from gUp_id (σ := gUp (gUp σ 186 (σ 133 79) x) 133 79 (σ 133 79 + 1)) (k := 133) (i := 80)]
          rw [if_pos (by omega)]
        refine w_aload_n (pc' := 59) (i := 0) (by rfl) (by rfl) dX12_push_58 rfl ?_
        refine w_callV (pc' := 62) (d' := 1) (av := []) mi_mX12_go lk_X12_444 rfl ci_X12 kd_133 rfl (Nat.le_of_ble_eq_true rfl) (Nat.le_of_ble_eq_true rfl) dX12_push_59 rfl (mg_go (σ := gUp (gUp (gUp σ 186 (σ 133 79) x) 133 79 ((σ 133 79) + 1)) 133 81 ((σ 133 81) + 1)) (show σ 133 54 ≤ 540 by omega) (show 0 ≤ σ 133 55 ∧ σ 133 55 ≤ σ 133 54 by omega)) (fun v_59 σ59 q_59 => ?_)
        obtain ⟨rfl, hk_59, ht_59⟩ := q_59
        show Wp _ _ _ _ _ _ []
        refine w_return rfl dX12_push_62 ?_
        exact ⟨rfl, hP ▸ hk_59, ht_59⟩
    · skip
      refine w_aload_n (pc' := 33) (i := 0) (by rfl) (by rfl) dX12_push_32 rfl ?_
      refine w_dup (pc' := 34) dX12_push_33 rfl ?_
      refine v_getI (pc' := 37) (ji := 80) rfl fg_X12_438 kd_133 dX12_push_34 rfl ?_
      show Wp _ _ _ _ _ _ [gI (σ 133 80), gR 133]
      refine w_iconst (pc' := 38) (by decide) dX12_push_37 rfl ?_
      refine v_iadd (pc' := 39) (by omega) dX12_push_38 rfl ?_
      refine v_putI (pc' := 42) (ji := 80) rfl fp_X12_438 kd_133 sf_X12_80 dX12_push_39 rfl ?_
      refine w_iload_n (pc' := 43) (i := 1) (by rfl) (by rfl) dX12_push_42 rfl ?_
      refine w_bipush (pc' := 45) (by decide) (by decide) dX12_push_43 rfl ?_
      refine w_icmp_ne (pc' := 48) (t := 58) dX12_push_45 rfl rfl (fun c_45 => ?_) (fun c_45 => ?_)
      · skip
        have hP : gUp (gUp (gUp σ 186 (σ 133 79) x) 133 79 ((σ 133 79) + 1)) 133 80 ((σ 133 80) + 1) = PSH σ x := by
          unfold PSH
          rw [if_pos (by omega)]
          rw [if_neg (by omega)]; exact (gUp_id (σ := gUp (gUp (gUp σ 186 (σ 133 79) x) 133 79 ((σ 133 79) + 1)) 133 80 ((σ 133 80) + 1)) (k := 133) (i := 81)).symm
        refine w_aload_n (pc' := 59) (i := 0) (by rfl) (by rfl) dX12_push_58 rfl ?_
        refine w_callV (pc' := 62) (d' := 1) (av := []) mi_mX12_go lk_X12_444 rfl ci_X12 kd_133 rfl (Nat.le_of_ble_eq_true rfl) (Nat.le_of_ble_eq_true rfl) dX12_push_59 rfl (mg_go (σ := gUp (gUp (gUp σ 186 (σ 133 79) x) 133 79 ((σ 133 79) + 1)) 133 80 ((σ 133 80) + 1)) (show σ 133 54 ≤ 540 by omega) (show 0 ≤ σ 133 55 ∧ σ 133 55 ≤ σ 133 54 by omega)) (fun v_59 σ59 q_59 => ?_)
        obtain ⟨rfl, hk_59, ht_59⟩ := q_59
        show Wp _ _ _ _ _ _ []
        refine w_return rfl dX12_push_62 ?_
        exact ⟨rfl, hP ▸ hk_59, ht_59⟩
      · skip
        refine w_aload_n (pc' := 49) (i := 0) (by rfl) (by rfl) dX12_push_48 rfl ?_
        refine w_dup (pc' := 50) dX12_push_49 rfl ?_
        refine v_getI (pc' := 53) (ji := 81) rfl fg_X12_441 kd_133 dX12_push_50 rfl ?_
        show Wp _ _ _ _ _ _ [gI (σ 133 81), gR 133]
        refine w_iconst (pc' := 54) (by decide) dX12_push_53 rfl ?_
        refine v_iadd (pc' := 55) (by omega) dX12_push_54 rfl ?_
        refine v_putI (pc' := 58) (ji := 81) rfl fp_X12_441 kd_133 sf_X12_81 dX12_push_55 rfl ?_
        have hP : gUp (gUp (gUp (gUp σ 186 (σ 133 79) x) 133 79 ((σ 133 79) + 1)) 133 80 ((σ 133 80) + 1)) 133 81 ((σ 133 81) + 1) = PSH σ x := by
          unfold PSH
          rw [if_pos (by omega)]
          rw [if_pos (by omega)]
        refine w_aload_n (pc' := 59) (i := 0) (by rfl) (by rfl) dX12_push_58 rfl ?_
        refine w_callV (pc' := 62) (d' := 1) (av := []) mi_mX12_go lk_X12_444 rfl ci_X12 kd_133 rfl (Nat.le_of_ble_eq_true rfl) (Nat.le_of_ble_eq_true rfl) dX12_push_59 rfl (mg_go (σ := gUp (gUp (gUp (gUp σ 186 (σ 133 79) x) 133 79 ((σ 133 79) + 1)) 133 80 ((σ 133 80) + 1)) 133 81 ((σ 133 81) + 1)) (show σ 133 54 ≤ 540 by omega) (show 0 ≤ σ 133 55 ∧ σ 133 55 ≤ σ 133 54 by omega)) (fun v_59 σ59 q_59 => ?_)
        obtain ⟨rfl, hk_59, ht_59⟩ := q_59
        show Wp _ _ _ _ _ _ []
        refine w_return rfl dX12_push_62 ?_
        exact ⟨rfl, hP ▸ hk_59, ht_59⟩
