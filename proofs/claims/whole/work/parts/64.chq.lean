/-! parts by way of others: the class, its readers (gen/mod_chn2.py) -/
theorem chn_form {σ : gH} {T : Int → Int} {f x z b p : Int} : gUp (gUp (gUp (gUp (gUp (gUr σ 31 T) 30 4 b) 30 5 p) 30 6 f) 32 0 x) 30 7 z = gUp (gUr (gUr (gUp (gUp (gUp σ 30 4 b) 30 5 p) 30 6 f) 31 T) 32 (updI (σ 32) 0 x)) 30 7 z := by
  funext q j
  unfold gUp gUr updI
  by_cases e : q = 30
  · subst e; simp
  · by_cases e1 : q = 31
    · subst e1; simp
    · by_cases e2 : q = 32
      · subst e2; simp
      · simp [e, e1, e2]
set_option maxHeartbeats 4000000 in
theorem k_walk {σ0 σ : gH} (hI : Inv σ0) (hq : QC σ0 σ) (x d t : Int) (hx : 0 ≤ x ∧ x < 60) : Mt mX0_walk 6 [gR 30, gI x, gI (-1), gI d, gI t] σ (fun v σ' => v = gX 1 ∧ QC σ0 σ' ∧ Kp 34 σ σ' ∧ (∀ y, 0 ≤ y → y < 60 → σ' 31 y = w64 (pS (AR σ0 d t) 4 (fun u => decide (u = x)) x y))) := by
  refine Mt.walk (ls := [gR 30, gI x, gI (-1), gI d, gI t]) pn_X0 rfl (fun _ _ h => by cases h.1) (Nat.le_of_ble_eq_true rfl) rfl ?_
  refine w_aload_n (pc' := 1) (i := 0) (by rfl) (by rfl) dX0_walk_0 rfl ?_
  refine w_getS (pc' := 4) (q := 14) fg_X0_22 kd_30 sf_X0_0 gr_30_0 dX0_walk_1 rfl ?_
  refine w_iload_n (pc' := 5) (i := 3) (by rfl) (by rfl) dX0_walk_4 rfl ?_
  refine w_iload (pc' := 7) (by rfl) dX0_walk_5 rfl ?_
  refine w_callV (pc' := 10) (d' := 1) (av := [gI d, gI t]) mi_mX7_load lk_X0_42 rfl ci_X7 kd_14 rfl (Nat.le_of_ble_eq_true rfl) (Nat.le_of_ble_eq_true rfl) dX0_walk_7 rfl (k_load hI hq d t) (fun v_7 σ1 q_7 => ?_)
  obtain ⟨rfl, hq1, hk1, hm1, e7, e5, e6, hA⟩ := q_7
  show Wp _ _ _ _ _ _ []
  refine w_aload_n (pc' := 11) (i := 0) (by rfl) (by rfl) dX0_walk_10 rfl ?_
  refine w_getS (pc' := 14) (q := 31) fg_X0_9 kd_30 sf_X0_1 gr_30_1 dX0_walk_11 rfl ?_
  refine w_lconst (n := 0) (pc' := 15) (by decide) (by decide) dX0_walk_14 rfl ?_
  refine v_callSE (pc' := 18) (st' := []) (d' := 0) (av := [gR 31, gJ 0]) ms_mJ7_fill_d0a16 st_mJ7_fill_d0a16 lk_X0_48 rfl rfl (Nat.le_of_ble_eq_true rfl) (Nat.le_of_ble_eq_true rfl) dX0_walk_15 rfl rfl (k_fillJ (x := 31) (n := 60) kd_31 (by decide) σ1 0) ?_
  refine w_aload_n (pc' := 19) (i := 0) (by rfl) (by rfl) dX0_walk_18 rfl ?_
  refine w_iconst (pc' := 20) (by decide) dX0_walk_19 rfl ?_
  refine v_putI (pc' := 23) (ji := 4) rfl fp_X0_38 kd_30 sf_X0_4 dX0_walk_20 rfl ?_
  refine w_aload_n (pc' := 24) (i := 0) (by rfl) (by rfl) dX0_walk_23 rfl ?_
  refine w_lconst (n := 0) (pc' := 25) (by decide) (by decide) dX0_walk_24 rfl ?_
  refine v_putJ (pc' := 28) (ji := 5) rfl fp_X0_54 kd_30 sf_X0_5 dX0_walk_25 rfl ?_
  refine w_aload_n (pc' := 29) (i := 0) (by rfl) (by rfl) dX0_walk_28 rfl ?_
  refine w_iload_n (pc' := 30) (i := 2) (by rfl) (by rfl) dX0_walk_29 rfl ?_
  refine v_putI (pc' := 33) (ji := 6) rfl fp_X0_58 kd_30 sf_X0_6 dX0_walk_30 rfl ?_
  refine w_aload_n (pc' := 34) (i := 0) (by rfl) (by rfl) dX0_walk_33 rfl ?_
  refine w_getS (pc' := 37) (q := 32) fg_X0_15 kd_30 sf_X0_2 gr_30_2 dX0_walk_34 rfl ?_
  refine w_iconst (pc' := 38) (by decide) dX0_walk_37 rfl ?_
  refine w_iload_n (pc' := 39) (i := 1) (by rfl) (by rfl) dX0_walk_38 rfl ?_
  refine w_iast (pc' := 40) kd_32 (by omega) (by omega) dX0_walk_39 rfl ?_
  refine w_aload_n (pc' := 41) (i := 0) (by rfl) (by rfl) dX0_walk_40 rfl ?_
  refine w_lconst (n := 1) (pc' := 42) (by decide) (by decide) dX0_walk_41 rfl ?_
  refine w_iload_n (pc' := 43) (i := 1) (by rfl) (by rfl) dX0_walk_42 rfl ?_
  refine w_lshl (pc' := 44) dX0_walk_43 rfl ?_
  refine v_putJ (pc' := 47) (ji := 7) rfl fp_X0_61 kd_30 sf_X0_7 dX0_walk_44 rfl ?_
  have hT0 : ∀ f, 0 ≤ f → f < 60 → gi64 (fillF (σ1 31) 60 0 f) := fun f a b => by rw [fillF_in a b]; decide
  have hv0 : ∀ u, 0 ≤ u → u < 60 → (bitI (gS64 (fun a b => a <<< b) 1 x) u ↔ (fun u => decide (u = x)) u = true) := fun u a b => by
    rw [bitI_one hx.1 (by omega) a (by omega), decide_eq_true_eq]
  refine Wp.heq (σ' := gUp (gUr (gUr (gUp (gUp (gUp σ1 30 4 0) 30 5 0) 30 6 (-1)) 31 (fillF (σ1 31) 60 0)) 32 (updI (σ1 32) 0 x)) 30 7 (gS64 (fun a b => a <<< b) 1 x)) chn_form ?_
  refine w_aload_n (pc' := 48) (i := 0) (by rfl) (by rfl) dX0_walk_47 rfl ?_
  refine w_iconst (pc' := 49) (by decide) dX0_walk_48 rfl ?_
  refine w_ldc2 (pc' := 52) (by decide) ct_X0_64 dX0_walk_49 rfl ?_
  refine w_callS (pc' := 55) (d' := 5) (av := [gR 30, gI 0, gJ 10000000000000000]) ms_mX0_stepOn st_mX0_stepOn lk_X0_66 rfl rfl (Nat.le_of_ble_eq_true rfl) (Nat.le_of_ble_eq_true rfl) dX0_walk_52 rfl (k_step4 (σ := gUp (gUp (gUp σ1 30 4 0) 30 5 0) 30 6 (-1)) (A := AR σ0 d t) hA (fun c f => AR_in hI d t c f) rfl (fillF (σ1 31) 60 0) (updI (σ1 32) 0 x) (gS64 (fun a b => a <<< b) 1 x) 1 (fun u => decide (u = x)) (by decide) (by rw [updI_eq]; exact hx) hT0 hv0) (fun v_52 σ_52 q_52 => ?_)
  obtain ⟨rfl, T2, P2, z2, rfl, hT2, hP2, hz2⟩ := q_52
  show Wp _ _ _ _ _ _ []
  refine w_return rfl dX0_walk_55 ?_
  have u0 : QC σ0 (gUp (gUp (gUp σ1 30 4 0) 30 5 0) 30 6 (-1)) := ((hq1.up (k := 30) (i := 4) (v := 0) (hm_nfC 30 (by decide) _) (fun h => h)).up (k := 30) (i := 5) (v := 0) (hm_nfC 30 (by decide) _) (fun h => h)).up (k := 30) (i := 6) (v := -1) (hm_nfC 30 (by decide) _) (fun h => h)
  refine ⟨rfl, ((u0.ur (k := 31) (f := T2) (hm_nfC 31 (by decide)) (fun h => h)).ur (k := 32) (f := P2) (hm_nfC 32 (by decide)) (fun h => h)).up (k := 30) (i := 7) (v := z2) (hm_nfC 30 (by decide) _) (fun h => h), (((((hk1.up (by decide)).up (by decide)).up (by decide)).ur (by decide)).ur (by decide)).up (by decide), fun y y0 y1 => ?_⟩
  show T2 y = _
  rw [hT2 y y0 y1, fillF_in y0 y1, updI_eq, Int.one_mul, Int.zero_add]
abbrev cutP (v : Int) : Int := w32 (w64 (v.tdiv 1000000000000))
theorem k_partOf {σ0 σ : gH} (hI : Inv σ0) (hq : QC σ0 σ) (x f d t : Int) (hx : 0 ≤ x ∧ x < 60) (hf : 0 ≤ f ∧ f < 60) : Mt mX0_partOf 7 [gR 30, gI x, gI f, gI d, gI t] σ (fun v σ' => v = gJ (w64 (pS (AR σ0 d t) 4 (fun u => decide (u = x)) x f)) ∧ QC σ0 σ' ∧ Kp 34 σ σ') := by
  refine Mt.walk (ls := [gR 30, gI x, gI f, gI d, gI t]) pn_X0 rfl (fun _ _ h => by cases h.1) (Nat.le_of_ble_eq_true rfl) rfl ?_
  refine w_aload_n (pc' := 1) (i := 0) (by rfl) (by rfl) dX0_partOf_0 rfl ?_
  refine w_iload_n (pc' := 2) (i := 1) (by rfl) (by rfl) dX0_partOf_1 rfl ?_
  refine w_iconst (pc' := 3) (by decide) dX0_partOf_2 rfl ?_
  refine w_iload_n (pc' := 4) (i := 3) (by rfl) (by rfl) dX0_partOf_3 rfl ?_
  refine w_iload (pc' := 6) (by rfl) dX0_partOf_4 rfl ?_
  refine w_callV (pc' := 9) (d' := 6) (av := [gI x, gI (-1), gI d, gI t]) mi_mX0_walk lk_X0_26 rfl ci_X0 kd_30 rfl (Nat.le_of_ble_eq_true rfl) (Nat.le_of_ble_eq_true rfl) dX0_partOf_6 rfl (k_walk hI hq x d t hx) (fun v_6 σw q_6 => ?_)
  obtain ⟨rfl, hqw, hkw, hw⟩ := q_6
  show Wp _ _ _ _ _ _ []
  refine w_iload_n (pc' := 10) (i := 2) (by rfl) (by rfl) dX0_partOf_9 rfl ?_
  refine w_if_lt (pc' := 13) (t := 28) dX0_partOf_10 rfl rfl (fun c_10 => ?_) (fun c_10 => ?_)
  · skip
    refine w_lconst (n := 0) (pc' := 29) (by decide) (by decide) dX0_partOf_28 rfl ?_
    refine w_lreturn rfl dX0_partOf_29 ?_
    first | (exfalso; omega) | (refine ⟨?_, hqw, hkw⟩; rw [hw f hf.1 hf.2])
  · skip
    refine w_iload_n (pc' := 14) (i := 2) (by rfl) (by rfl) dX0_partOf_13 rfl ?_
    refine w_bipush (pc' := 16) (by decide) (by decide) dX0_partOf_14 rfl ?_
    refine w_icmp_ge (pc' := 19) (t := 28) dX0_partOf_16 rfl rfl (fun c_16 => ?_) (fun c_16 => ?_)
    · skip
      refine w_lconst (n := 0) (pc' := 29) (by decide) (by decide) dX0_partOf_28 rfl ?_
      refine w_lreturn rfl dX0_partOf_29 ?_
      first | (exfalso; omega) | (refine ⟨?_, hqw, hkw⟩; rw [hw f hf.1 hf.2])
    · skip
      refine w_aload_n (pc' := 20) (i := 0) (by rfl) (by rfl) dX0_partOf_19 rfl ?_
      refine w_getS (pc' := 23) (q := 31) fg_X0_9 kd_30 sf_X0_1 gr_30_1 dX0_partOf_20 rfl ?_
      refine w_iload_n (pc' := 24) (i := 2) (by rfl) (by rfl) dX0_partOf_23 rfl ?_
      refine w_lald (pc' := 25) kd_31 (by omega) (by omega) dX0_partOf_24 rfl ?_
      refine w_goto (pc' := 29) dX0_partOf_25 rfl ?_
      refine w_lreturn rfl dX0_partOf_29 ?_
      first | (exfalso; omega) | (refine ⟨?_, hqw, hkw⟩; rw [hw f hf.1 hf.2])
theorem k_cutPartOf {σ0 σ : gH} (hI : Inv σ0) (hq : QC σ0 σ) (x f d t : Int) (hx : 0 ≤ x ∧ x < 60) (hf : 0 ≤ f ∧ f < 60) : Mt mX0_cutPartOf 7 [gR 30, gI x, gI f, gI d, gI t] σ (fun v σ' => v = gI (if x = f then 10000 else cutP (w64 (pS (AR σ0 d t) 4 (fun u => decide (u = x)) x f))) ∧ QC σ0 σ' ∧ Kp 34 σ σ') := by
  refine Mt.walk (ls := [gR 30, gI x, gI f, gI d, gI t]) pn_X0 rfl (fun _ _ h => by cases h.1) (Nat.le_of_ble_eq_true rfl) rfl ?_
  refine w_iload_n (pc' := 1) (i := 1) (by rfl) (by rfl) dX0_cutPartOf_0 rfl ?_
  refine w_iload_n (pc' := 2) (i := 2) (by rfl) (by rfl) dX0_cutPartOf_1 rfl ?_
  refine w_icmp_ne (pc' := 5) (t := 9) dX0_cutPartOf_2 rfl rfl (fun c_2 => ?_) (fun c_2 => ?_)
  · skip
    refine w_aload_n (pc' := 10) (i := 0) (by rfl) (by rfl) dX0_cutPartOf_9 rfl ?_
    refine w_iload_n (pc' := 11) (i := 1) (by rfl) (by rfl) dX0_cutPartOf_10 rfl ?_
    refine w_iconst (pc' := 12) (by decide) dX0_cutPartOf_11 rfl ?_
    refine w_iload_n (pc' := 13) (i := 3) (by rfl) (by rfl) dX0_cutPartOf_12 rfl ?_
    refine w_iload (pc' := 15) (by rfl) dX0_cutPartOf_13 rfl ?_
    refine w_callV (pc' := 18) (d' := 6) (av := [gI x, gI (-1), gI d, gI t]) mi_mX0_walk lk_X0_26 rfl ci_X0 kd_30 rfl (Nat.le_of_ble_eq_true rfl) (Nat.le_of_ble_eq_true rfl) dX0_cutPartOf_15 rfl (k_walk hI hq x d t hx) (fun v_15 σw q_15 => ?_)
    obtain ⟨rfl, hqw, hkw, hw⟩ := q_15
    show Wp _ _ _ _ _ _ []
    refine w_iload_n (pc' := 19) (i := 2) (by rfl) (by rfl) dX0_cutPartOf_18 rfl ?_
    refine w_if_lt (pc' := 22) (t := 42) dX0_cutPartOf_19 rfl rfl (fun c_19 => ?_) (fun c_19 => ?_)
    · skip
      refine w_iconst (pc' := 43) (by decide) dX0_cutPartOf_42 rfl ?_
      refine v_ireturn rfl dX0_cutPartOf_43 ?_
      first | (exfalso; omega) | exact ⟨by rw [if_pos (by assumption)], hq, Kp.refl⟩ | (refine ⟨?_, hqw, hkw⟩; rw [hw f hf.1 hf.2, if_neg (by assumption)])
    · skip
      refine w_iload_n (pc' := 23) (i := 2) (by rfl) (by rfl) dX0_cutPartOf_22 rfl ?_
      refine w_bipush (pc' := 25) (by decide) (by decide) dX0_cutPartOf_23 rfl ?_
      refine w_icmp_ge (pc' := 28) (t := 42) dX0_cutPartOf_25 rfl rfl (fun c_25 => ?_) (fun c_25 => ?_)
      · skip
        refine w_iconst (pc' := 43) (by decide) dX0_cutPartOf_42 rfl ?_
        refine v_ireturn rfl dX0_cutPartOf_43 ?_
        first | (exfalso; omega) | exact ⟨by rw [if_pos (by assumption)], hq, Kp.refl⟩ | (refine ⟨?_, hqw, hkw⟩; rw [hw f hf.1 hf.2, if_neg (by assumption)])
      · skip
        refine w_aload_n (pc' := 29) (i := 0) (by rfl) (by rfl) dX0_cutPartOf_28 rfl ?_
        refine w_getS (pc' := 32) (q := 31) fg_X0_9 kd_30 sf_X0_1 gr_30_1 dX0_cutPartOf_29 rfl ?_
        refine w_iload_n (pc' := 33) (i := 2) (by rfl) (by rfl) dX0_cutPartOf_32 rfl ?_
        refine w_lald (pc' := 34) kd_31 (by omega) (by omega) dX0_cutPartOf_33 rfl ?_
        refine w_ldc2 (pc' := 37) (by decide) ct_X0_30 dX0_cutPartOf_34 rfl ?_
        refine w_ldiv (pc' := 38) (by omega) dX0_cutPartOf_37 rfl ?_
        refine w_l2i (pc' := 39) dX0_cutPartOf_38 rfl ?_
        refine w_goto (pc' := 43) dX0_cutPartOf_39 rfl ?_
        refine v_ireturn rfl dX0_cutPartOf_43 ?_
        first | (exfalso; omega) | exact ⟨by rw [if_pos (by assumption)], hq, Kp.refl⟩ | (refine ⟨?_, hqw, hkw⟩; rw [hw f hf.1 hf.2, if_neg (by assumption)])
  · skip
    refine w_sipush (pc' := 8) (by decide) (by decide) dX0_cutPartOf_5 rfl ?_
    refine v_ireturn rfl dX0_cutPartOf_8 ?_
    first | (exfalso; omega) | exact ⟨by rw [if_pos (by assumption)], hq, Kp.refl⟩ | (refine ⟨?_, hqw, hkw⟩; rw [hw f hf.1 hf.2, if_neg (by assumption)])
def bigW (g : Int → Int) : Nat → Int
  | 0 => 0
  | n + 1 => if g n < bigW g n then bigW g n else g n
theorem bigW_congr {f g : Int → Int} : ∀ {n : Nat}, (∀ i : Int, 0 ≤ i → i < n → f i = g i) → bigW f n = bigW g n
  | 0, _ => rfl
  | n + 1, h => by
    show (if f n < bigW f n then bigW f n else f n) = (if g n < bigW g n then bigW g n else g n)
    rw [bigW_congr fun i a b => h i a (by omega), h n (by omega) (by omega)]
theorem k_greatestPart {σ0 σ : gH} (hI : Inv σ0) (hq : QC σ0 σ) (x t : Int) (hx : 0 ≤ x ∧ x < 60) : Mt mX0_greatestPart 7 [gR 30, gI x, gI t] σ (fun v σ' => v = gI (cutP (bigW (fun f => w64 (pS (AR σ0 t t) 4 (fun u => decide (u = x)) x f)) 60)) ∧ QC σ0 σ' ∧ Kp 34 σ σ') := by
  refine Mt.walk (ls := [gR 30, gI x, gI t, gX 1, gX 1, gX 1]) pn_X0 rfl (fun _ _ h => by cases h.1) (Nat.le_of_ble_eq_true rfl) rfl ?_
  refine w_aload_n (pc' := 1) (i := 0) (by rfl) (by rfl) dX0_greatestPart_0 rfl ?_
  refine w_iload_n (pc' := 2) (i := 1) (by rfl) (by rfl) dX0_greatestPart_1 rfl ?_
  refine w_iconst (pc' := 3) (by decide) dX0_greatestPart_2 rfl ?_
  refine w_iload_n (pc' := 4) (i := 2) (by rfl) (by rfl) dX0_greatestPart_3 rfl ?_
  refine w_iload_n (pc' := 5) (i := 2) (by rfl) (by rfl) dX0_greatestPart_4 rfl ?_
  refine w_callV (pc' := 8) (d' := 6) (av := [gI x, gI (-1), gI t, gI t]) mi_mX0_walk lk_X0_26 rfl ci_X0 kd_30 rfl (Nat.le_of_ble_eq_true rfl) (Nat.le_of_ble_eq_true rfl) dX0_greatestPart_5 rfl (k_walk hI hq x t t hx) (fun v_5 σw q_5 => ?_)
  obtain ⟨rfl, hqw, hkw, hw⟩ := q_5
  show Wp _ _ _ _ _ _ []
  refine w_lconst (n := 0) (pc' := 9) (by decide) (by decide) dX0_greatestPart_8 rfl ?_
  refine w_lstore_n (pc' := 10) (i := 3) (ls' := [gR 30, gI x, gI t, gJ 0, gX 1, gX 1]) (by rfl) (by decide) (by rfl) dX0_greatestPart_9 rfl ?_
  refine w_iconst (pc' := 11) (by decide) dX0_greatestPart_10 rfl ?_
  refine w_istore (pc' := 13) (ls' := [gR 30, gI x, gI t, gJ 0, gX 1, gI 0]) (by decide) (by rfl) dX0_greatestPart_11 rfl ?_
  have hl_13 : ∀ (mm : Nat) (f : Int), (60 - f).toNat = mm → (0 ≤ f) → (f ≤ 60) → Wp mX0_greatestPart 7 (fun v σ' => v = gI (cutP (bigW (fun f => w64 (pS (AR σ0 t t) 4 (fun u => decide (u = x)) x f)) 60)) ∧ QC σ0 σ' ∧ Kp 34 σ σ') σw 13 [gR 30, gI x, gI t, gJ (bigW (σw 31) f.toNat), gX 1, gI f] [] := by
    intro m_13
    induction m_13 using Nat.strongRecOn with
    | _ m_13 ih_13 =>
      intro f hmeas_13 f0 f1
      have eb : bigW (σw 31) (f + 1).toNat = (if σw 31 f < bigW (σw 31) f.toNat then bigW (σw 31) f.toNat else σw 31 f) := by
        rw [show (f + 1).toNat = f.toNat + 1 by omega]
        show (if σw 31 (f.toNat : Int) < bigW (σw 31) f.toNat then _ else _) = _
        rw [show (f.toNat : Int) = f by omega]
      refine w_iload (pc' := 15) (by rfl) dX0_greatestPart_13 rfl ?_
      refine w_bipush (pc' := 17) (by decide) (by decide) dX0_greatestPart_15 rfl ?_
      refine w_icmp_ge (pc' := 20) (t := 38) dX0_greatestPart_17 rfl rfl (fun c_17 => ?_) (fun c_17 => ?_)
      · skip
        refine w_lload_n (pc' := 39) (i := 3) (by rfl) (by rfl) dX0_greatestPart_38 rfl ?_
        refine w_ldc2 (pc' := 42) (by decide) ct_X0_30 dX0_greatestPart_39 rfl ?_
        refine w_ldiv (pc' := 43) (by omega) dX0_greatestPart_42 rfl ?_
        refine w_l2i (pc' := 44) dX0_greatestPart_43 rfl ?_
        refine v_ireturn rfl dX0_greatestPart_44 ?_
        refine ⟨?_, hqw, hkw⟩
        have e6 : f.toNat = 60 := by omega
        rw [e6, bigW_congr (g := fun f => w64 (pS (AR σ0 t t) 4 (fun u => decide (u = x)) x f)) (fun y a b => hw y a b)]
      · skip
        refine w_lload_n (pc' := 21) (i := 3) (by rfl) (by rfl) dX0_greatestPart_20 rfl ?_
        refine w_aload_n (pc' := 22) (i := 0) (by rfl) (by rfl) dX0_greatestPart_21 rfl ?_
        refine w_getS (pc' := 25) (q := 31) fg_X0_9 kd_30 sf_X0_1 gr_30_1 dX0_greatestPart_22 rfl ?_
        refine w_iload (pc' := 27) (by rfl) dX0_greatestPart_25 rfl ?_
        refine w_lald (pc' := 28) kd_31 (by omega) (by omega) dX0_greatestPart_27 rfl ?_
        refine w_lmax (pc' := 31) lk_X0_32 st_mJ9_max_f86c9 (Nat.le_of_ble_eq_true rfl) (Nat.le_of_ble_eq_true rfl) dX0_greatestPart_28 rfl ?_
        refine Wp.stJ (y := bigW (σw 31) (f + 1).toNat) eb.symm ?_
        refine w_lstore_n (pc' := 32) (i := 3) (ls' := [gR 30, gI x, gI t, gJ (bigW (σw 31) (f + 1).toNat), gX 1, gI f]) (by rfl) (by decide) (by rfl) dX0_greatestPart_31 rfl ?_
        refine v_iinc (pc' := 35) (x := f) (ls' := [gR 30, gI x, gI t, gJ (bigW (σw 31) (f + 1).toNat), gX 1, gI (f + 1)]) (by omega) (by decide) (by rfl) (by rfl) dX0_greatestPart_32 rfl ?_
        refine w_goto (pc' := 13) dX0_greatestPart_35 rfl ?_
        exact ih_13 _ (by omega) (f + 1) rfl (by omega) (by omega)
  exact hl_13 _ 0 rfl (by omega) (by omega)
