/-! the greatest chain: the call of the class (gen/mod_chc.py) -/
theorem BSt.len {n q : Int} {R : Int → Int} {s : Int × List Int} (h : BSt n q R s) : n = s.2.length := h.1
theorem BSt.copy {n q : Int} {R R' : Int → Int} {s : Int × List Int} (h : BSt n q R s) (hR : ∀ j, 0 ≤ j → j < n → R' j = R j) : rowL R' 0 s.2 := rowL_congr s.2 0 (fun i a b => hR i a (by rw [h.1]; omega)) h.2.2
theorem okS.len {m k : Nat} {a : Int × List Int} (h : okS m k a) : 0 ≤ (a.2.length : Int) ∧ (a.2.length : Int) ≤ k := by
  rcases h with e | e
  · rw [e]; exact ⟨by decide, by show (0 : Int) ≤ k; omega⟩
  · omega
theorem chb_form {σ : gH} {T : Int → Int} {f x z b p : Int} : gUp (gUp (gUp (gUp (gUp (gUr σ 31 T) 30 4 b) 30 5 p) 30 6 f) 32 0 x) 30 7 z = gUp (gUp (gUp (gUr (gUr (gUr (gUp σ 30 6 f) 31 T) 32 (updI (σ 32) 0 x)) 33 (σ 33)) 30 7 z) 30 4 b) 30 5 p := by
  funext q j
  unfold gUp gUr updI
  by_cases e : q = 30
  · subst e
    by_cases a4 : j = 4
    · subst a4; simp
    · by_cases a5 : j = 5
      · subst a5; simp
      · by_cases a6 : j = 6
        · subst a6; simp
        · by_cases a7 : j = 7
          · subst a7; simp
          · simp [a4, a5, a6, a7]
  · by_cases e1 : q = 31
    · subst e1; simp
    · by_cases e2 : q = 32
      · subst e2; simp
      · by_cases e3 : q = 33
        · subst e3; simp
        · simp [e, e1, e2, e3]
set_option maxHeartbeats 4000000 in
theorem kb_walk {σ0 σ : gH} (hI : Inv σ0) (hq : QC σ0 σ) (x f d t : Int) (hx : 0 ≤ x ∧ x < 60) : Mt mX0_walk 6 [gR 30, gI x, gI f, gI d, gI t] σ (fun v σ' => v = gX 1 ∧ QC σ0 σ' ∧ Kp 34 σ σ' ∧ BSt (σ' 30 4) (σ' 30 5) (σ' 33) (BCH (AR σ0 d t) x f)) := by
  refine Mt.walk (ls := [gR 30, gI x, gI f, gI d, gI t]) pn_X0 rfl (fun _ _ h => by cases h.1) (Nat.le_of_ble_eq_true rfl) rfl ?_
  refine w_aload_n (pc' := 1) (i := 0) (by rfl) (by rfl) dX0_walk_0 rfl ?_
  refine w_getS (pc' := 4) (q := 14) fg_X0_22 kd_30 sf_X0_0 gr_30_0 dX0_walk_1 rfl ?_
  refine w_iload_n (pc' := 5) (i := 3) (by rfl) (by rfl) dX0_walk_4 rfl ?_
  refine w_iload (pc' := 7) (by rfl) dX0_walk_5 rfl ?_
  refine w_callV (pc' := 10) (d' := 1) (av := [gI d, gI t]) mi_mX7_load lk_X0_42 rfl ci_X7 kd_14 rfl (Nat.le_of_ble_eq_true rfl) (Nat.le_of_ble_eq_true rfl) dX0_walk_7 rfl (k_load hI hq d t) (fun v_7 σ1 q_7 => ?_)
  obtain ⟨rfl, hq1, hk1, hm1, e7, e5, e6, hA⟩ := q_7
  show Wp _ _ _ _ _ _ []
  refine w_aload_n (pc' := 11) (i := 0) (by rfl) (by rfl) dX0_walk_10 rfl ?_
  refine w_getS (pc' := 14) (q := 31) fg_X0_9 kd_30 sf_X0_1 gr_30_1 dX0_walk_11 rfl ?_
  refine w_lconst (n := 0) (pc' := 15) (by decide) (by decide) dX0_walk_14 rfl ?_
  refine v_callSE (pc' := 18) (st' := []) (d' := 0) (av := [gR 31, gJ 0]) ms_mJ7_fill_d0a16 st_mJ7_fill_d0a16 lk_X0_48 rfl rfl (Nat.le_of_ble_eq_true rfl) (Nat.le_of_ble_eq_true rfl) dX0_walk_15 rfl rfl (k_fillJ (x := 31) (n := 60) kd_31 (by decide) σ1 0) ?_
  refine w_aload_n (pc' := 19) (i := 0) (by rfl) (by rfl) dX0_walk_18 rfl ?_
  refine w_iconst (pc' := 20) (by decide) dX0_walk_19 rfl ?_
  refine v_putI (pc' := 23) (ji := 4) rfl fp_X0_38 kd_30 sf_X0_4 dX0_walk_20 rfl ?_
  refine w_aload_n (pc' := 24) (i := 0) (by rfl) (by rfl) dX0_walk_23 rfl ?_
  refine w_lconst (n := 0) (pc' := 25) (by decide) (by decide) dX0_walk_24 rfl ?_
  refine v_putJ (pc' := 28) (ji := 5) rfl fp_X0_54 kd_30 sf_X0_5 dX0_walk_25 rfl ?_
  refine w_aload_n (pc' := 29) (i := 0) (by rfl) (by rfl) dX0_walk_28 rfl ?_
  refine w_iload_n (pc' := 30) (i := 2) (by rfl) (by rfl) dX0_walk_29 rfl ?_
  refine v_putI (pc' := 33) (ji := 6) rfl fp_X0_58 kd_30 sf_X0_6 dX0_walk_30 rfl ?_
  refine w_aload_n (pc' := 34) (i := 0) (by rfl) (by rfl) dX0_walk_33 rfl ?_
  refine w_getS (pc' := 37) (q := 32) fg_X0_15 kd_30 sf_X0_2 gr_30_2 dX0_walk_34 rfl ?_
  refine w_iconst (pc' := 38) (by decide) dX0_walk_37 rfl ?_
  refine w_iload_n (pc' := 39) (i := 1) (by rfl) (by rfl) dX0_walk_38 rfl ?_
  refine w_iast (pc' := 40) kd_32 (by omega) (by omega) dX0_walk_39 rfl ?_
  refine w_aload_n (pc' := 41) (i := 0) (by rfl) (by rfl) dX0_walk_40 rfl ?_
  refine w_lconst (n := 1) (pc' := 42) (by decide) (by decide) dX0_walk_41 rfl ?_
  refine w_iload_n (pc' := 43) (i := 1) (by rfl) (by rfl) dX0_walk_42 rfl ?_
  refine w_lshl (pc' := 44) dX0_walk_43 rfl ?_
  refine v_putJ (pc' := 47) (ji := 7) rfl fp_X0_61 kd_30 sf_X0_7 dX0_walk_44 rfl ?_
  have hv0 : ∀ u, 0 ≤ u → u < 60 → (bitI (gS64 (fun a b => a <<< b) 1 x) u ↔ u ∈ [x]) := fun u a b => by
    rw [bitI_one hx.1 (by omega) a (by omega), List.mem_singleton]
  refine Wp.heq (σ' := gUp (gUp (gUp (gUr (gUr (gUr (gUp σ1 30 6 f) 31 (fillF (σ1 31) 60 0)) 32 (updI (σ1 32) 0 x)) 33 (σ1 33)) 30 7 (gS64 (fun a b => a <<< b) 1 x)) 30 4 0) 30 5 0) chb_form ?_
  refine w_aload_n (pc' := 48) (i := 0) (by rfl) (by rfl) dX0_walk_47 rfl ?_
  refine w_iconst (pc' := 49) (by decide) dX0_walk_48 rfl ?_
  refine w_ldc2 (pc' := 52) (by decide) ct_X0_64 dX0_walk_49 rfl ?_
  refine w_callS (pc' := 55) (d' := 5) (av := [gR 30, gI 0, gJ 10000000000000000]) ms_mX0_stepOn st_mX0_stepOn lk_X0_66 rfl rfl (Nat.le_of_ble_eq_true rfl) (Nat.le_of_ble_eq_true rfl) dX0_walk_52 rfl (kb_step4 (σ := gUp σ1 30 6 f) (A := AR σ0 d t) hA (fun c f => AR_in hI d t c f) (f := f) rfl (fillF (σ1 31) 60 0) (updI (σ1 32) 0 x) (σ1 33) (gS64 (fun a b => a <<< b) 1 x) 0 0 1 [x] zcs (by decide) (by rw [updI_eq]; exact hx) rfl ⟨updI_eq, trivial⟩ hv0 ⟨rfl, rfl, trivial⟩) (fun v_52 σ_52 q_52 => ?_)
  obtain ⟨rfl, T2, P2, R2, z2, n2, q2, rfl, hP2, hz2, hB2⟩ := q_52
  show Wp _ _ _ _ _ _ []
  refine w_return rfl dX0_walk_55 ?_
  refine ⟨rfl, (((((((hq1.up (k := 30) (i := 6) (v := f) (hm_nfC 30 (by decide) _) (fun h => h)).ur (k := 31) (f := T2) (hm_nfC 31 (by decide)) (fun h => h)).ur (k := 32) (f := P2) (hm_nfC 32 (by decide)) (fun h => h)).ur (k := 33) (f := R2) (hm_nfC 33 (by decide)) (fun h => h)).up (k := 30) (i := 7) (v := z2) (hm_nfC 30 (by decide) _) (fun h => h)).up (k := 30) (i := 4) (v := n2) (hm_nfC 30 (by decide) _) (fun h => h)).up (k := 30) (i := 5) (v := q2) (hm_nfC 30 (by decide) _) (fun h => h)), (((((((hk1.up (by decide)).ur (by decide)).ur (by decide)).ur (by decide)).up (by decide)).up (by decide)).up (by decide)), ?_⟩
  show BSt n2 q2 R2 _
  rw [updI_eq] at hB2
  exact hB2
theorem kb_find {σ0 σ : gH} (hI : Inv σ0) (hq : QC σ0 σ) (x f d t : Int) (hx : 0 ≤ x ∧ x < 60) : Mt mX0_findBest 7 [gR 30, gI x, gI f, gI d, gI t] σ (fun v σ' => v = gI ((BCH (AR σ0 d t) x f).2.length : Int) ∧ QC σ0 σ' ∧ Kp 34 σ σ' ∧ BSt (σ' 30 4) (σ' 30 5) (σ' 33) (BCH (AR σ0 d t) x f)) := by
  refine Mt.walk (ls := [gR 30, gI x, gI f, gI d, gI t]) pn_X0 rfl (fun _ _ h => by cases h.1) (Nat.le_of_ble_eq_true rfl) rfl ?_
  refine w_aload_n (pc' := 1) (i := 0) (by rfl) (by rfl) dX0_findBest_0 rfl ?_
  refine w_iload_n (pc' := 2) (i := 1) (by rfl) (by rfl) dX0_findBest_1 rfl ?_
  refine w_iload_n (pc' := 3) (i := 2) (by rfl) (by rfl) dX0_findBest_2 rfl ?_
  refine w_iload_n (pc' := 4) (i := 3) (by rfl) (by rfl) dX0_findBest_3 rfl ?_
  refine w_iload (pc' := 6) (by rfl) dX0_findBest_4 rfl ?_
  refine w_callV (pc' := 9) (d' := 6) (av := [gI x, gI f, gI d, gI t]) mi_mX0_walk lk_X0_26 rfl ci_X0 kd_30 rfl (Nat.le_of_ble_eq_true rfl) (Nat.le_of_ble_eq_true rfl) dX0_findBest_6 rfl (kb_walk hI hq x f d t hx) (fun v_6 σw q_6 => ?_)
  obtain ⟨rfl, hqw, hkw, hBw⟩ := q_6
  show Wp _ _ _ _ _ _ []
  refine w_aload_n (pc' := 10) (i := 0) (by rfl) (by rfl) dX0_findBest_9 rfl ?_
  refine v_getI (pc' := 13) (ji := 4) rfl fg_X0_38 kd_30 dX0_findBest_10 rfl ?_
  refine v_ireturn rfl dX0_findBest_13 ?_
  exact ⟨by rw [hBw.len], hqw, hkw, hBw⟩
theorem kb_copy {σ : gH} (hn : 0 ≤ σ 30 4 ∧ σ 30 4 ≤ 5) : Mt mX0_copyBest 1 [gR 30, gR 2] σ (fun v σ' => v = gI (σ 30 4) ∧ ∃ R, σ' = gUr σ 2 R ∧ ∀ j, 0 ≤ j → j < σ 30 4 → R j = σ 33 j) := by
  refine Mt.walk (ls := [gR 30, gR 2, gX 1, gX 1]) pn_X0 rfl (fun _ _ h => by cases h.1) (Nat.le_of_ble_eq_true rfl) rfl ?_
  refine w_iconst (pc' := 1) (by decide) dX0_copyBest_0 rfl ?_
  refine w_istore_n (pc' := 2) (i := 2) (ls' := [gR 30, gR 2, gI 0, gX 1]) (by rfl) (by decide) (by rfl) dX0_copyBest_1 rfl ?_
  refine w_iconst (pc' := 3) (by decide) dX0_copyBest_2 rfl ?_
  refine w_istore_n (pc' := 4) (i := 3) (ls' := [gR 30, gR 2, gI 0, gI 0]) (by rfl) (by decide) (by rfl) dX0_copyBest_3 rfl ?_
  have hl_4 : ∀ (mm : Nat) (i : Int) (R : Int → Int), (σ 30 4 - i).toNat = mm → (0 ≤ i) → (i ≤ σ 30 4) → (∀ j, 0 ≤ j → j < i → R j = σ 33 j) → Wp mX0_copyBest 1 (fun v σ' => v = gI (σ 30 4) ∧ ∃ R, σ' = gUr σ 2 R ∧ ∀ j, 0 ≤ j → j < σ 30 4 → R j = σ 33 j) (gUr σ 2 R) 4 [gR 30, gR 2, gI i, gI i] [] := by
    intro m_4
    induction m_4 using Nat.strongRecOn with
    | _ m_4 ih_4 =>
      intro i R hmeas_4 i0 i1 hR
      refine w_iload_n (pc' := 5) (i := 3) (by rfl) (by rfl) dX0_copyBest_4 rfl ?_
      refine w_aload_n (pc' := 6) (i := 0) (by rfl) (by rfl) dX0_copyBest_5 rfl ?_
      refine v_getI (pc' := 9) (ji := 4) rfl fg_X0_38 kd_30 dX0_copyBest_6 rfl ?_
      show Wp _ _ _ _ _ _ [gI (σ 30 4), gI i]
      refine w_icmp_ge (pc' := 12) (t := 45) dX0_copyBest_9 rfl rfl (fun c_9 => ?_) (fun c_9 => ?_)
      · skip
        refine w_iload_n (pc' := 46) (i := 2) (by rfl) (by rfl) dX0_copyBest_45 rfl ?_
        refine v_ireturn rfl dX0_copyBest_46 ?_
        first | (exfalso; omega) | exact ⟨by rw [show i = σ 30 4 by omega], R, rfl, fun j a b => hR j a (by omega)⟩
      · skip
        refine w_iload_n (pc' := 13) (i := 3) (by rfl) (by rfl) dX0_copyBest_12 rfl ?_
        refine w_aload_n (pc' := 14) (i := 0) (by rfl) (by rfl) dX0_copyBest_13 rfl ?_
        refine w_getS (pc' := 17) (q := 33) fg_X0_19 kd_30 sf_X0_3 gr_30_3 dX0_copyBest_14 rfl ?_
        refine w_alen (pc' := 18) kd_33 (by decide) (by decide) dX0_copyBest_17 rfl ?_
        refine w_icmp_ge (pc' := 21) (t := 45) dX0_copyBest_18 rfl rfl (fun c_18 => ?_) (fun c_18 => ?_)
        · skip
          refine w_iload_n (pc' := 46) (i := 2) (by rfl) (by rfl) dX0_copyBest_45 rfl ?_
          refine v_ireturn rfl dX0_copyBest_46 ?_
          first | (exfalso; omega) | exact ⟨by rw [show i = σ 30 4 by omega], R, rfl, fun j a b => hR j a (by omega)⟩
        · skip
          refine w_iload_n (pc' := 22) (i := 3) (by rfl) (by rfl) dX0_copyBest_21 rfl ?_
          refine w_aload_n (pc' := 23) (i := 1) (by rfl) (by rfl) dX0_copyBest_22 rfl ?_
          refine w_alen (pc' := 24) kd_2 (by decide) (by decide) dX0_copyBest_23 rfl ?_
          refine w_icmp_ge (pc' := 27) (t := 45) dX0_copyBest_24 rfl rfl (fun c_24 => ?_) (fun c_24 => ?_)
          · skip
            refine w_iload_n (pc' := 46) (i := 2) (by rfl) (by rfl) dX0_copyBest_45 rfl ?_
            refine v_ireturn rfl dX0_copyBest_46 ?_
            first | (exfalso; omega) | exact ⟨by rw [show i = σ 30 4 by omega], R, rfl, fun j a b => hR j a (by omega)⟩
          · skip
            refine w_aload_n (pc' := 28) (i := 1) (by rfl) (by rfl) dX0_copyBest_27 rfl ?_
            refine w_iload_n (pc' := 29) (i := 3) (by rfl) (by rfl) dX0_copyBest_28 rfl ?_
            refine w_aload_n (pc' := 30) (i := 0) (by rfl) (by rfl) dX0_copyBest_29 rfl ?_
            refine w_getS (pc' := 33) (q := 33) fg_X0_19 kd_30 sf_X0_3 gr_30_3 dX0_copyBest_30 rfl ?_
            refine w_iload_n (pc' := 34) (i := 3) (by rfl) (by rfl) dX0_copyBest_33 rfl ?_
            refine w_iald (pc' := 35) kd_33 (by omega) (by omega) dX0_copyBest_34 rfl ?_
            show Wp _ _ _ _ _ _ [gI (σ 33 i), gI i, gR 2]
            refine w_iast (pc' := 36) kd_2 (by omega) (by omega) dX0_copyBest_35 rfl ?_
            refine Wp.heq (σ' := gUr σ 2 (updI R i (σ 33 i))) gUp_row ?_
            refine v_iinc (pc' := 39) (x := i) (ls' := [gR 30, gR 2, gI (i + 1), gI i]) (by omega) (by decide) (by rfl) (by rfl) dX0_copyBest_36 rfl ?_
            refine v_iinc (pc' := 42) (x := i) (ls' := [gR 30, gR 2, gI (i + 1), gI (i + 1)]) (by omega) (by decide) (by rfl) (by rfl) dX0_copyBest_39 rfl ?_
            refine w_goto (pc' := 4) dX0_copyBest_42 rfl ?_
            exact ih_4 _ (by omega) (i + 1) (updI R i (σ 33 i)) rfl (by omega) (by omega) (by intro j a b; by_cases e : j = i; (rw [e, updI_eq]); rw [updI_ne e]; exact hR j a (by omega))
  refine Wp.heq (σ' := gUr σ 2 (σ 2)) gUr_id.symm ?_
  exact hl_4 _ 0 (σ 2) rfl (by omega) (by omega) (by intro j a b; omega)
set_option maxHeartbeats 4000000 in
theorem x_chain {σ0 : gH} (hI : Inv σ0) (x f d t : Int) {bc : Int × List Int} (hbc : BCH (AR σ0 d t) x f = bc) : Mt mX11_chain 30 [gR 0, gI x, gI f, gI d, gI t] σ0 (fun v σ' => v = gI (if ((0 ≤ x ∧ x < σ0 3 2) ∧ 0 ≤ f ∧ f < σ0 3 2) ∧ 0 ≤ d ∧ d ≤ 9999 then (bc.2.length : Int) else -1) ∧ ((¬ ((((0 ≤ x ∧ x < σ0 3 2) ∧ 0 ≤ f ∧ f < σ0 3 2) ∧ 0 ≤ d ∧ d ≤ 9999) ∧ 0 < (bc.2.length : Int)) ∧ QC σ0 σ') ∨ ((((0 ≤ x ∧ x < σ0 3 2) ∧ 0 ≤ f ∧ f < σ0 3 2) ∧ 0 ≤ d ∧ d ≤ 9999) ∧ 0 < (bc.2.length : Int) ∧ ∃ σq R, QC σ0 σq ∧ σ' = gUp (gUr σq 2 R) 0 3 (bc.2.length : Int) ∧ rowL R 0 bc.2))) := by
  refine Mt.walk (ls := [gR 0, gI x, gI f, gI d, gI t, gX 1]) pn_X11 rfl (fun _ _ h => by cases h.1) (Nat.le_of_ble_eq_true rfl) rfl ?_
  have hp := hI.f.hp
  refine w_aload_n (pc' := 1) (i := 0) (by rfl) (by rfl) dX11_chain_0 rfl ?_
  refine w_getS (pc' := 4) (q := 3) fg_X11_21 kd_0 sf_X11_5 gr_0_5 dX11_chain_1 rfl ?_
  refine w_iload_n (pc' := 5) (i := 1) (by rfl) (by rfl) dX11_chain_4 rfl ?_
  refine v_callVE (pc' := 8) (st' := [gI (gb (0 ≤ x ∧ x < (σ0 3 2)))]) (d' := 0) (av := [gI x]) mi_mX8_has lk_X11_111 rfl ci_X8 kd_3 rfl (Nat.le_of_ble_eq_true rfl) (Nat.le_of_ble_eq_true rfl) dX11_chain_5 rfl rfl (hmP (F := fun z => gI (gb (0 ≤ x ∧ x < (z 3 2)))) ((QC.refl hI).1) (fun _ => rfl) (pa_has σ0 (hm_FA ((QC.refl hI).1) hI.1).1.hp x)) ?_
  refine v_if_eqB (pc' := 11) (t := 29) dX11_chain_8 rfl rfl (fun c_8 => ?_) (fun c_8 => ?_)
  · skip
    refine w_iconst (pc' := 30) (by decide) dX11_chain_29 rfl ?_
    refine v_ireturn rfl dX11_chain_30 ?_
    exact ⟨by rw [if_neg (by omega)], Or.inl ⟨by omega, QC.refl hI⟩⟩
  · skip
    refine w_aload_n (pc' := 12) (i := 0) (by rfl) (by rfl) dX11_chain_11 rfl ?_
    refine w_getS (pc' := 15) (q := 3) fg_X11_21 kd_0 sf_X11_5 gr_0_5 dX11_chain_12 rfl ?_
    refine w_iload_n (pc' := 16) (i := 2) (by rfl) (by rfl) dX11_chain_15 rfl ?_
    refine v_callVE (pc' := 19) (st' := [gI (gb (0 ≤ f ∧ f < (σ0 3 2)))]) (d' := 0) (av := [gI f]) mi_mX8_has lk_X11_111 rfl ci_X8 kd_3 rfl (Nat.le_of_ble_eq_true rfl) (Nat.le_of_ble_eq_true rfl) dX11_chain_16 rfl rfl (hmP (F := fun z => gI (gb (0 ≤ f ∧ f < (z 3 2)))) ((QC.refl hI).1) (fun _ => rfl) (pa_has σ0 (hm_FA ((QC.refl hI).1) hI.1).1.hp f)) ?_
    refine v_if_eqB (pc' := 22) (t := 29) dX11_chain_19 rfl rfl (fun c_19 => ?_) (fun c_19 => ?_)
    · skip
      refine w_iconst (pc' := 30) (by decide) dX11_chain_29 rfl ?_
      refine v_ireturn rfl dX11_chain_30 ?_
      exact ⟨by rw [if_neg (by omega)], Or.inl ⟨by omega, QC.refl hI⟩⟩
    · skip
      refine w_iload_n (pc' := 23) (i := 3) (by rfl) (by rfl) dX11_chain_22 rfl ?_
      refine v_callSE (pc' := 26) (st' := [gI (gb (0 ≤ d ∧ d ≤ 9999))]) (d' := 0) (av := [gI d]) ms_mX11_isDay st_mX11_isDay lk_X11_129 rfl rfl (Nat.le_of_ble_eq_true rfl) (Nat.le_of_ble_eq_true rfl) dX11_chain_23 rfl rfl (cl_isDay σ0 d) ?_
      refine v_if_neB (pc' := 29) (t := 31) dX11_chain_26 rfl rfl (fun c_26 => ?_) (fun c_26 => ?_)
      · skip
        refine w_aload_n (pc' := 32) (i := 0) (by rfl) (by rfl) dX11_chain_31 rfl ?_
        refine w_getS (pc' := 35) (q := 30) fg_X11_35 kd_0 sf_X11_7 gr_0_7 dX11_chain_32 rfl ?_
        refine w_iload_n (pc' := 36) (i := 1) (by rfl) (by rfl) dX11_chain_35 rfl ?_
        refine w_iload_n (pc' := 37) (i := 2) (by rfl) (by rfl) dX11_chain_36 rfl ?_
        refine w_iload_n (pc' := 38) (i := 3) (by rfl) (by rfl) dX11_chain_37 rfl ?_
        refine w_iload (pc' := 40) (by rfl) dX11_chain_38 rfl ?_
        refine w_callV (pc' := 43) (d' := 7) (av := [gI x, gI f, gI d, gI t]) mi_mX0_findBest lk_X11_174 rfl ci_X0 kd_30 rfl (Nat.le_of_ble_eq_true rfl) (Nat.le_of_ble_eq_true rfl) dX11_chain_40 rfl (by have k := kb_find hI (QC.refl hI) x f d t ⟨by omega, by omega⟩; rw [hbc] at k; exact k) (fun v_40 σ40 q_40 => ?_)
        obtain ⟨rfl, hq_40, hk_40, hB_40⟩ := q_40
        show Wp _ _ _ _ _ _ [gI (bc.2.length : Int)]
        have hl5 := (BCH_ok (A := AR σ0 d t) (x := x) (f := f) (fun y z => (AR_in hI d t y z).1)).len
        rw [hbc] at hl5
        refine w_istore (pc' := 45) (ls' := [gR 0, gI x, gI f, gI d, gI t, gI (bc.2.length : Int)]) (by decide) (by rfl) dX11_chain_43 rfl ?_
        refine w_iload (pc' := 47) (by rfl) dX11_chain_45 rfl ?_
        refine w_if_le (pc' := 50) (t := 65) dX11_chain_47 rfl rfl (fun c_47 => ?_) (fun c_47 => ?_)
        · skip
          refine w_iload (pc' := 67) (by rfl) dX11_chain_65 rfl ?_
          refine v_ireturn rfl dX11_chain_67 ?_
          exact ⟨by rw [if_pos (by omega)], Or.inl ⟨by omega, hq_40⟩⟩
        · skip
          refine w_aload_n (pc' := 51) (i := 0) (by rfl) (by rfl) dX11_chain_50 rfl ?_
          refine w_aload_n (pc' := 52) (i := 0) (by rfl) (by rfl) dX11_chain_51 rfl ?_
          refine w_getS (pc' := 55) (q := 30) fg_X11_35 kd_0 sf_X11_7 gr_0_7 dX11_chain_52 rfl ?_
          refine w_aload_n (pc' := 56) (i := 0) (by rfl) (by rfl) dX11_chain_55 rfl ?_
          refine w_getS (pc' := 59) (q := 2) fg_X11_15 kd_0 sf_X11_2 gr_0_2 dX11_chain_56 rfl ?_
          refine w_callV (pc' := 62) (d' := 1) (av := [gR 2]) mi_mX0_copyBest lk_X11_178 rfl ci_X0 kd_30 rfl (Nat.le_of_ble_eq_true rfl) (Nat.le_of_ble_eq_true rfl) dX11_chain_59 rfl (kb_copy (σ := σ40) (by rw [hB_40.len]; exact hl5)) (fun v_59 σ_59 q_59 => ?_)
          obtain ⟨rfl, R_59, rfl, hR_59⟩ := q_59
          show Wp _ _ _ _ _ _ [gI (σ40 30 4), gR 0]
          refine v_putI (pc' := 65) (ji := 3) rfl fp_X11_182 kd_0 sf_X11_3 dX11_chain_62 rfl ?_
          refine w_iload (pc' := 67) (by rfl) dX11_chain_65 rfl ?_
          refine v_ireturn rfl dX11_chain_67 ?_
          exact ⟨by rw [if_pos (by omega)], Or.inr ⟨by omega, by omega, σ40, R_59, hq_40, by rw [hB_40.len], hB_40.copy hR_59⟩⟩
      · skip
        refine w_iconst (pc' := 30) (by decide) dX11_chain_29 rfl ?_
        refine v_ireturn rfl dX11_chain_30 ?_
        exact ⟨by rw [if_neg (by omega)], Or.inl ⟨by omega, QC.refl hI⟩⟩
