/-! joined: the class, the whole (gen/mod_cjj.py) -/
theorem gUp_own {σ : gH} {k : Nat} {i v : Int} : gUp σ k i v k = updI (σ k) i v := if_pos rfl
abbrev fitQ (σ : gH) (t e g : Int) : Prop := g < σ 41 11 ∧ fitP σ t e g
theorem ISL_120 {E G : Int} {F : Int → Int → Prop} {M : Int → Int} (hG : G ≤ 120) (h : ISL E 120 (fun e g => g < G ∧ F e g) M) : ISL E G F M := by
  have k : MT E 120 (fun e g => g < G ∧ F e g) = MT E G F := funext fun A => propext ⟨fun q => ⟨fun e a b => (q.1 e a b).imp id (fun r => ⟨r.1, r.2.2.1, r.2.2.2⟩), q.2⟩, fun q => ⟨fun e a b => (q.1 e a b).imp id (fun r => ⟨r.1, by omega, r.2.1, r.2.2⟩), q.2⟩⟩
  unfold ISL OPT MXM at *
  rw [k] at h
  exact h
theorem fBt_0 {R : Int → Int} {e z : Int} (h : ∀ i, 0 ≤ i → i < 200 → R i = 0) (e0 : 0 ≤ e) (e1 : e < 100) (h0 : 0 ≤ z) (h1 : z < 120) : ¬ fBt R e z := by
  have m := hfmd h0 h1
  unfold fBt
  rw [h _ (by omega) (by omega)]
  exact bitI_0 m.2.1.1 m.2.1.2
theorem oBt_1 {R : Int → Int} {z : Int} (h : ∀ i, 0 ≤ i → i < 2 → R i = -1) (h0 : 0 ≤ z) (h1 : z < 120) : oBt R z := by
  have m := hfmd h0 h1
  unfold oBt
  rw [h _ (by omega) (by omega)]
  exact bitI_m1 m.2.1.1 m.2.1.2
theorem MX_sz {E G : Int} {F : Int → Int → Prop} {M M' : Int → Int} (h : MXM E G F M) (h' : MXM E G F M') : szM E M = szM E M' := Int.le_antisymm (h'.2 M h.1) (h.2 M' h'.1)
theorem kj_isNamed {σ0 σ : gH} (hI : Inv σ0) (hq : QC σ0 σ) (x n : Int) : Mt mX8_isNamed 1 [gR 3, gI x, gJ n] σ (rE (gI (gb ((0 ≤ x ∧ x < σ0 3 2) ∧ σ0 5 x = n))) σ) := by
  refine Mt.walk (ls := [gR 3, gI x, gJ n, gX 1]) pn_X8 rfl (fun _ _ h => by cases h.1) (Nat.le_of_ble_eq_true rfl) rfl ?_
  have hp := hI.f.hp
  have hc := gCmp_eq (x := σ0 5 x) (y := n)
  refine w_aload_n (pc' := 1) (i := 0) (by rfl) (by rfl) dX8_isNamed_0 rfl ?_
  refine w_iload_n (pc' := 2) (i := 1) (by rfl) (by rfl) dX8_isNamed_1 rfl ?_
  refine v_callVE (pc' := 5) (st' := [gI (gb (0 ≤ x ∧ x < (σ0 3 2)))]) (d' := 0) (av := [gI x]) mi_mX8_has lk_X8_40 rfl ci_X8 kd_3 rfl (Nat.le_of_ble_eq_true rfl) (Nat.le_of_ble_eq_true rfl) dX8_isNamed_2 rfl rfl (hmP (F := fun z => gI (gb (0 ≤ x ∧ x < (z 3 2)))) (hq.1) (fun _ => rfl) (pa_has σ (hm_FA (hq.1) hI.1).1.hp x)) ?_
  refine v_if_eqB (pc' := 8) (t := 23) dX8_isNamed_5 rfl rfl (fun c_5 => ?_) (fun c_5 => ?_)
  · skip
    refine w_iconst (pc' := 24) (by decide) dX8_isNamed_23 rfl ?_
    refine w_zreturn rfl (.inl rfl) dX8_isNamed_24 ?_
    first | (exfalso; omega) | exact ⟨congrArg gI (gb_t (by omega)).symm, rfl⟩ | exact ⟨congrArg gI (gb_f (by omega)).symm, rfl⟩
  · skip
    refine w_aload_n (pc' := 9) (i := 0) (by rfl) (by rfl) dX8_isNamed_8 rfl ?_
    refine w_getS (pc' := 12) (q := 5) fg_X8_15 kd_3 sf_X8_1 gr_3_1 dX8_isNamed_9 rfl ?_
    refine w_iload_n (pc' := 13) (i := 1) (by rfl) (by rfl) dX8_isNamed_12 rfl ?_
    refine w_lald (pc' := 14) kd_5 (by omega) (by omega) dX8_isNamed_13 rfl ?_
    rw [(hq).rd (k := 5) (i := x) (.inr rfl)]
    refine w_lload_n (pc' := 15) (i := 2) (by rfl) (by rfl) dX8_isNamed_14 rfl ?_
    refine w_lcmp (pc' := 16) dX8_isNamed_15 rfl ?_
    refine w_if_ne (pc' := 19) (t := 23) dX8_isNamed_16 rfl rfl (fun c_16 => ?_) (fun c_16 => ?_)
    · skip
      refine w_iconst (pc' := 24) (by decide) dX8_isNamed_23 rfl ?_
      refine w_zreturn rfl (.inl rfl) dX8_isNamed_24 ?_
      first | (exfalso; omega) | exact ⟨congrArg gI (gb_t (by omega)).symm, rfl⟩ | exact ⟨congrArg gI (gb_f (by omega)).symm, rfl⟩
    · skip
      refine w_iconst (pc' := 20) (by decide) dX8_isNamed_19 rfl ?_
      refine w_goto (pc' := 24) dX8_isNamed_20 rfl ?_
      refine w_zreturn rfl (.inr rfl) dX8_isNamed_24 ?_
      first | (exfalso; omega) | exact ⟨congrArg gI (gb_t (by omega)).symm, rfl⟩ | exact ⟨congrArg gI (gb_f (by omega)).symm, rfl⟩
theorem kj_isKnown {σ0 σ : gH} (hI : Inv σ0) (hq : QC σ0 σ) (e t : Int) : Mt mX6_isKnown 1 [gR 112, gI e, gI t] σ (rE (gI (gb ((0 ≤ e ∧ e < σ0 112 8) ∧ σ0 117 e ≤ t))) σ) := by
  refine Mt.walk (ls := [gR 112, gI e, gI t]) pn_X6 rfl (fun _ _ h => by cases h.1) (Nat.le_of_ble_eq_true rfl) rfl ?_
  have hen0 := hI.f.ent.2.1
  have hen := hI.f.ent.2.2.1
  refine w_aload_n (pc' := 1) (i := 0) (by rfl) (by rfl) dX6_isKnown_0 rfl ?_
  refine w_iload_n (pc' := 2) (i := 1) (by rfl) (by rfl) dX6_isKnown_1 rfl ?_
  refine v_callVE (pc' := 5) (st' := [gI (gb ((0 ≤ e ∧ e < σ0 112 8) ∧ e < 100))]) (d' := 0) (av := [gI e]) mi_mX6_has lk_X6_65 rfl ci_X6 kd_112 rfl (Nat.le_of_ble_eq_true rfl) (Nat.le_of_ble_eq_true rfl) dX6_isKnown_2 rfl rfl (hmP (F := fun z => gI (gb ((0 ≤ e ∧ e < z 112 8) ∧ e < 100))) (hq.1) (fun _ => rfl) (kj_has σ e)) ?_
  refine v_if_eqB (pc' := 8) (t := 22) dX6_isKnown_5 rfl rfl (fun c_5 => ?_) (fun c_5 => ?_)
  · skip
    refine w_iconst (pc' := 23) (by decide) dX6_isKnown_22 rfl ?_
    refine w_zreturn rfl (.inl rfl) dX6_isKnown_23 ?_
    first | (exfalso; omega) | exact ⟨congrArg gI (gb_t (by omega)).symm, rfl⟩ | exact ⟨congrArg gI (gb_f (by omega)).symm, rfl⟩
  · skip
    refine w_aload_n (pc' := 9) (i := 0) (by rfl) (by rfl) dX6_isKnown_8 rfl ?_
    refine w_getS (pc' := 12) (q := 117) fg_X6_25 kd_112 sf_X6_7 gr_112_7 dX6_isKnown_9 rfl ?_
    refine w_iload_n (pc' := 13) (i := 1) (by rfl) (by rfl) dX6_isKnown_12 rfl ?_
    refine w_iald (pc' := 14) kd_117 (by omega) (by omega) dX6_isKnown_13 rfl ?_
    rw [(hq).rd (k := 117) (i := e) (.inr rfl)]
    refine w_iload_n (pc' := 15) (i := 2) (by rfl) (by rfl) dX6_isKnown_14 rfl ?_
    refine w_icmp_gt (pc' := 18) (t := 22) dX6_isKnown_15 rfl rfl (fun c_15 => ?_) (fun c_15 => ?_)
    · skip
      refine w_iconst (pc' := 23) (by decide) dX6_isKnown_22 rfl ?_
      refine w_zreturn rfl (.inl rfl) dX6_isKnown_23 ?_
      first | (exfalso; omega) | exact ⟨congrArg gI (gb_t (by omega)).symm, rfl⟩ | exact ⟨congrArg gI (gb_f (by omega)).symm, rfl⟩
    · skip
      refine w_iconst (pc' := 19) (by decide) dX6_isKnown_18 rfl ?_
      refine w_goto (pc' := 23) dX6_isKnown_19 rfl ?_
      refine w_zreturn rfl (.inr rfl) dX6_isKnown_23 ?_
      first | (exfalso; omega) | exact ⟨congrArg gI (gb_t (by omega)).symm, rfl⟩ | exact ⟨congrArg gI (gb_f (by omega)).symm, rfl⟩
set_option maxHeartbeats 4000000 in
theorem kj_findFits {σ0 σ : gH} (hI : Inv σ0) (hq : QC σ0 σ) (e t : Int) (he : 0 ≤ e ∧ e < σ0 112 8) : Mt mX6_findFits 4 [gR 112, gI e, gI t] σ (fun v σ' => v = gX 1 ∧ QC σ0 σ' ∧ (∀ k, 34 ≤ k → k ≠ 118 → σ' k = σ k) ∧ ∀ i z, 0 ≤ i → i < 100 → 0 ≤ z → z < 120 → (fBt (σ' 118) i z ↔ fBt (σ 118) i z ∨ (i = e ∧ z < σ0 41 11 ∧ fitP σ0 t e z))) := by
  refine Mt.walk (ls := [gR 112, gI e, gI t, gX 1, gX 1, gX 1]) pn_X6 rfl (fun _ _ h => by cases h.1) (Nat.le_of_ble_eq_true rfl) rfl ?_
  have hz0 := hI.f.hz
  have hp60 := hI.f.hp
  have hen := hI.f.ent.2.2.1
  have her := ent_row hI he.1 he.2
  have her1 := her.1
  have her3 := her.2.2
  clear her
  refine w_aload_n (pc' := 1) (i := 0) (by rfl) (by rfl) dX6_findFits_0 rfl ?_
  refine w_iload_n (pc' := 2) (i := 1) (by rfl) (by rfl) dX6_findFits_1 rfl ?_
  refine w_iload_n (pc' := 3) (i := 2) (by rfl) (by rfl) dX6_findFits_2 rfl ?_
  refine v_callVE (pc' := 6) (st' := [gI (gb ((0 ≤ e ∧ e < σ0 112 8) ∧ σ0 117 e ≤ t))]) (d' := 1) (av := [gI e, gI t]) mi_mX6_isKnown lk_X6_97 rfl ci_X6 kd_112 rfl (Nat.le_of_ble_eq_true rfl) (Nat.le_of_ble_eq_true rfl) dX6_findFits_3 rfl rfl (kj_isKnown hI hq e t) ?_
  refine v_if_neB (pc' := 9) (t := 10) dX6_findFits_6 rfl rfl (fun c_6 => ?_) (fun c_6 => ?_)
  · skip
    refine w_aload_n (pc' := 11) (i := 0) (by rfl) (by rfl) dX6_findFits_10 rfl ?_
    refine w_getS (pc' := 14) (q := 14) fg_X6_53 kd_112 sf_X6_1 gr_112_1 dX6_findFits_11 rfl ?_
    refine w_aload_n (pc' := 15) (i := 0) (by rfl) (by rfl) dX6_findFits_14 rfl ?_
    refine w_getS (pc' := 18) (q := 113) fg_X6_11 kd_112 sf_X6_3 gr_112_3 dX6_findFits_15 rfl ?_
    refine w_iload_n (pc' := 19) (i := 1) (by rfl) (by rfl) dX6_findFits_18 rfl ?_
    refine w_iald (pc' := 20) kd_113 (by (first | omega | (have := hrow (by omega); omega))) (by (first | omega | (have := hrow (by omega); omega))) dX6_findFits_19 rfl ?_
    rw [(hq).rd (k := 113) (i := e) (.inr rfl)]
    refine w_aload_n (pc' := 21) (i := 0) (by rfl) (by rfl) dX6_findFits_20 rfl ?_
    refine w_getS (pc' := 24) (q := 115) fg_X6_19 kd_112 sf_X6_5 gr_112_5 dX6_findFits_21 rfl ?_
    refine w_iload_n (pc' := 25) (i := 1) (by rfl) (by rfl) dX6_findFits_24 rfl ?_
    refine w_iald (pc' := 26) kd_115 (by (first | omega | (have := hrow (by omega); omega))) (by (first | omega | (have := hrow (by omega); omega))) dX6_findFits_25 rfl ?_
    rw [(hq).rd (k := 115) (i := e) (.inr rfl)]
    refine w_iload_n (pc' := 27) (i := 2) (by rfl) (by rfl) dX6_findFits_26 rfl ?_
    refine w_callV (pc' := 30) (d' := 3) (av := [gI (σ0 113 e), gI (σ0 115 e), gI t]) mi_mX7_headOf lk_X6_101 rfl ci_X7 kd_14 rfl (Nat.le_of_ble_eq_true rfl) (Nat.le_of_ble_eq_true rfl) dX6_findFits_27 rfl (k_headOf hI hq (σ0 113 e) (σ0 115 e) t (by (first | omega | (have := hrow (by omega); omega)))) (fun v_27 σ27 q_27 => ?_)
    obtain ⟨rfl, hq_27, hk_27⟩ := q_27
    show Wp _ _ _ _ _ _ [gI (HD (AR σ0 (σ0 115 e) t) (σ0 113 e))]
    refine w_istore_n (pc' := 31) (i := 3) (ls' := [gR 112, gI e, gI t, gI (HD (AR σ0 (σ0 115 e) t) (σ0 113 e)), gX 1, gX 1]) (by rfl) (by decide) (by rfl) dX6_findFits_30 rfl ?_
    refine w_iconst (pc' := 32) (by decide) dX6_findFits_31 rfl ?_
    refine w_istore (pc' := 34) (ls' := [gR 112, gI e, gI t, gI (HD (AR σ0 (σ0 115 e) t) (σ0 113 e)), gI 0, gX 1]) (by decide) (by rfl) dX6_findFits_32 rfl ?_
    have hl_34 : ∀ (mm : Nat) (g : Int) (σv : gH), (σ0 41 11 - g).toNat = mm → (0 ≤ g) → (g ≤ σ0 41 11) → (QC σ0 σv) → (∀ k, 34 ≤ k → k ≠ 118 → σv k = σ k) → (∀ i z, 0 ≤ i → i < 100 → 0 ≤ z → z < 120 → (fBt (σv 118) i z ↔ fBt (σ 118) i z ∨ (i = e ∧ z < g ∧ fitP σ0 t e z))) → Wp mX6_findFits 4 (fun v σ' => v = gX 1 ∧ QC σ0 σ' ∧ (∀ k, 34 ≤ k → k ≠ 118 → σ' k = σ k) ∧ ∀ i z, 0 ≤ i → i < 100 → 0 ≤ z → z < 120 → (fBt (σ' 118) i z ↔ fBt (σ 118) i z ∨ (i = e ∧ z < σ0 41 11 ∧ fitP σ0 t e z))) σv 34 [gR 112, gI e, gI t, gI (HD (AR σ0 (σ0 115 e) t) (σ0 113 e)), gI g, gX 1] [] := by
      intro m_34
      induction m_34 using Nat.strongRecOn with
      | _ m_34 ih_34 =>
        intro g σv hmeas_34 g0 g1 hqv hkv hft
        have hrow := fun h : g < σ0 41 11 => gift_row hI g0 h
        have hm := fun h : g < σ0 41 11 => hfmd g0 (show g < 120 by omega)
        refine w_iload (pc' := 36) (by rfl) dX6_findFits_34 rfl ?_
        refine w_aload_n (pc' := 37) (i := 0) (by rfl) (by rfl) dX6_findFits_36 rfl ?_
        refine w_getS (pc' := 40) (q := 41) fg_X6_57 kd_112 sf_X6_2 gr_112_2 dX6_findFits_37 rfl ?_
        refine v_callVE (pc' := 43) (st' := [gI (σ0 41 11), gI g]) (d' := 0) (av := []) mi_mX2_total lk_X6_107 rfl ci_X2 kd_41 rfl (Nat.le_of_ble_eq_true rfl) (Nat.le_of_ble_eq_true rfl) dX6_findFits_40 rfl rfl (hmP (F := fun z => gI (z 41 11)) (hqv.1) (fun _ => rfl) (g_total σv (hm_FA (hqv.1) hI.1).1.hz)) ?_
        refine w_icmp_ge (pc' := 46) (t := 231) dX6_findFits_43 rfl rfl (fun c_43 => ?_) (fun c_43 => ?_)
        · skip
          refine w_return rfl dX6_findFits_231 ?_
          exact ⟨rfl, hqv, hkv, fun i z a b z0 z1 => by have w := hft i z a b z0 z1; rw [show g = σ0 41 11 by omega] at w; exact w⟩
        · skip
          refine w_iload (pc' := 48) (by rfl) dX6_findFits_46 rfl ?_
          refine w_bipush (pc' := 50) (by decide) (by decide) dX6_findFits_48 rfl ?_
          refine w_icmp_ge (pc' := 53) (t := 231) dX6_findFits_50 rfl rfl (fun c_50 => ?_) (fun c_50 => ?_)
          · skip
            refine w_return rfl dX6_findFits_231 ?_
            exact ⟨rfl, hqv, hkv, fun i z a b z0 z1 => by have w := hft i z a b z0 z1; rw [show g = σ0 41 11 by omega] at w; exact w⟩
          · skip
            refine w_aload_n (pc' := 54) (i := 0) (by rfl) (by rfl) dX6_findFits_53 rfl ?_
            refine w_getS (pc' := 57) (q := 41) fg_X6_57 kd_112 sf_X6_2 gr_112_2 dX6_findFits_54 rfl ?_
            refine w_iload (pc' := 59) (by rfl) dX6_findFits_57 rfl ?_
            refine v_callVE (pc' := 62) (st' := [gI (σ0 45 g)]) (d' := 1) (av := [gI g]) mi_mX2_dayOf lk_X6_113 rfl ci_X2 kd_41 rfl (Nat.le_of_ble_eq_true rfl) (Nat.le_of_ble_eq_true rfl) dX6_findFits_59 rfl rfl (hmP (F := fun z => gI (z 45 g)) (hqv.1) (fun _ => rfl) (gi_dayOf σv (hm_FA (hqv.1) hI.1).1.hz g (gr_n (hqv.1) ⟨by omega, by omega⟩))) ?_
            refine w_aload_n (pc' := 63) (i := 0) (by rfl) (by rfl) dX6_findFits_62 rfl ?_
            refine w_getS (pc' := 66) (q := 115) fg_X6_19 kd_112 sf_X6_5 gr_112_5 dX6_findFits_63 rfl ?_
            refine w_iload_n (pc' := 67) (i := 1) (by rfl) (by rfl) dX6_findFits_66 rfl ?_
            refine w_iald (pc' := 68) kd_115 (by (first | omega | (have := hrow (by omega); omega))) (by (first | omega | (have := hrow (by omega); omega))) dX6_findFits_67 rfl ?_
            rw [(hqv).rd (k := 115) (i := e) (.inr rfl)]
            refine v_isub (pc' := 69) (by (first | omega | (have := hrow (by omega); omega))) dX6_findFits_68 rfl ?_
            refine w_istore (pc' := 71) (ls' := [gR 112, gI e, gI t, gI (HD (AR σ0 (σ0 115 e) t) (σ0 113 e)), gI g, gI ((σ0 45 g) - (σ0 115 e))]) (by decide) (by rfl) dX6_findFits_69 rfl ?_
            refine w_aload_n (pc' := 72) (i := 0) (by rfl) (by rfl) dX6_findFits_71 rfl ?_
            refine w_getS (pc' := 75) (q := 41) fg_X6_57 kd_112 sf_X6_2 gr_112_2 dX6_findFits_72 rfl ?_
            refine w_iload (pc' := 77) (by rfl) dX6_findFits_75 rfl ?_
            refine w_iload_n (pc' := 78) (i := 2) (by rfl) (by rfl) dX6_findFits_77 rfl ?_
            refine v_callVE (pc' := 81) (st' := [gI (gb ((0 ≤ g ∧ g < σ0 41 11) ∧ σ0 49 g ≤ t))]) (d' := 1) (av := [gI g, gI t]) mi_mX2_isKnown lk_X6_117 rfl ci_X2 kd_41 rfl (Nat.le_of_ble_eq_true rfl) (Nat.le_of_ble_eq_true rfl) dX6_findFits_78 rfl rfl (hmP (F := fun z => gI (gb ((0 ≤ g ∧ g < z 41 11) ∧ z 49 g ≤ t))) (hqv.1) (fun _ => rfl) (g_isKnown σv (hm_FA (hqv.1) hI.1).1.hz g t)) ?_
            refine v_if_eqB (pc' := 84) (t := 225) dX6_findFits_81 rfl rfl (fun c_81 => ?_) (fun c_81 => ?_)
            · skip
              refine v_iinc (pc' := 228) (x := g) (ls' := [gR 112, gI e, gI t, gI (HD (AR σ0 (σ0 115 e) t) (σ0 113 e)), gI (g + 1), gI ((σ0 45 g) - (σ0 115 e))]) (by (first | omega | (have := hrow (by omega); omega))) (by decide) (by rfl) (by rfl) dX6_findFits_225 rfl ?_
              refine w_goto (pc' := 34) dX6_findFits_228 rfl ?_
              refine Wp.lose (ls' := [gR 112, gI e, gI t, gI (HD (AR σ0 (σ0 115 e) t) (σ0 113 e)), gI (g + 1), gX 1]) ⟨.inr rfl, ⟨.inr rfl, ⟨.inr rfl, ⟨.inr rfl, ⟨.inr rfl, ⟨.inl rfl, trivial⟩⟩⟩⟩⟩⟩ ?_
              have qb : QC σ0 (σv) := hqv
              exact ih_34 _ (by omega) (g + 1) σv rfl (by omega) (by omega) (by exact qb) (by first | exact hkv | (intro k a b; exact (hk_194 k a).trans (hkv k a b)) | (intro k a b; exact (if_neg b).trans ((hk_194 k a).trans (hkv k a b)))) (by intro i z a b z0 z1; first | (have w := hft i z a b z0 z1; rw [w]; refine or_congr_right ⟨fun k => ⟨k.1, by omega, k.2.2⟩, fun k => ⟨k.1, ?_, k.2.2⟩⟩; by_cases c : z = g; (exfalso; rw [c] at k; obtain ⟨k1, k2, k3⟩ := k; omega); omega) | (rw [e118]; have w := hft i z a b z0 z1; rw [w]; refine or_congr_right ⟨fun k => ⟨k.1, by omega, k.2.2⟩, fun k => ⟨k.1, ?_, k.2.2⟩⟩; by_cases c : z = g; (exfalso; rw [c] at k; obtain ⟨k1, k2, k3⟩ := k; omega); omega) | (have w := hft i z a b z0 z1; have s := fBt_set (R := σv 118) (e := e) (g := g) g0 (by omega) z0 z1 (e' := i); rw [gUp_own, e118]; refine Iff.trans s ?_; rw [w]; constructor; (rintro ((k | k) | k); exact Or.inl k; exact Or.inr ⟨k.1, by omega, k.2.2⟩; exact Or.inr ⟨k.1, by omega, by rw [k.2]; exact hfit⟩); (rintro (k | k); exact Or.inl (Or.inl k); by_cases c : z = g; exact Or.inr ⟨k.1, c⟩; exact Or.inl (Or.inr ⟨k.1, by omega, k.2.2⟩))))
            · skip
              refine w_aload_n (pc' := 85) (i := 0) (by rfl) (by rfl) dX6_findFits_84 rfl ?_
              refine w_getS (pc' := 88) (q := 41) fg_X6_57 kd_112 sf_X6_2 gr_112_2 dX6_findFits_85 rfl ?_
              refine w_iload (pc' := 90) (by rfl) dX6_findFits_88 rfl ?_
              refine w_iload_n (pc' := 91) (i := 2) (by rfl) (by rfl) dX6_findFits_90 rfl ?_
              refine v_callVE (pc' := 94) (st' := [gI (TOLD σ0 g t)]) (d' := 1) (av := [gI g, gI t]) mi_mX2_toldOn lk_X6_118 rfl ci_X2 kd_41 rfl (Nat.le_of_ble_eq_true rfl) (Nat.le_of_ble_eq_true rfl) dX6_findFits_91 rfl rfl (hmP (F := fun z => gI (TOLD z g t)) (hqv.1) (fun _ => rfl) (g_toldOn σv (hm_FA (hqv.1) hI.1).1.hz g t (gr_n (hqv.1) ⟨by omega, by omega⟩))) ?_
              refine w_iconst (pc' := 95) (by decide) dX6_findFits_94 rfl ?_
              refine w_icmp_eq (pc' := 98) (t := 225) dX6_findFits_95 rfl rfl (fun c_95 => ?_) (fun c_95 => ?_)
              · skip
                refine v_iinc (pc' := 228) (x := g) (ls' := [gR 112, gI e, gI t, gI (HD (AR σ0 (σ0 115 e) t) (σ0 113 e)), gI (g + 1), gI ((σ0 45 g) - (σ0 115 e))]) (by (first | omega | (have := hrow (by omega); omega))) (by decide) (by rfl) (by rfl) dX6_findFits_225 rfl ?_
                refine w_goto (pc' := 34) dX6_findFits_228 rfl ?_
                refine Wp.lose (ls' := [gR 112, gI e, gI t, gI (HD (AR σ0 (σ0 115 e) t) (σ0 113 e)), gI (g + 1), gX 1]) ⟨.inr rfl, ⟨.inr rfl, ⟨.inr rfl, ⟨.inr rfl, ⟨.inr rfl, ⟨.inl rfl, trivial⟩⟩⟩⟩⟩⟩ ?_
                have qb : QC σ0 (σv) := hqv
                exact ih_34 _ (by omega) (g + 1) σv rfl (by omega) (by omega) (by exact qb) (by first | exact hkv | (intro k a b; exact (hk_194 k a).trans (hkv k a b)) | (intro k a b; exact (if_neg b).trans ((hk_194 k a).trans (hkv k a b)))) (by intro i z a b z0 z1; first | (have w := hft i z a b z0 z1; rw [w]; refine or_congr_right ⟨fun k => ⟨k.1, by omega, k.2.2⟩, fun k => ⟨k.1, ?_, k.2.2⟩⟩; by_cases c : z = g; (exfalso; rw [c] at k; obtain ⟨k1, k2, k3⟩ := k; omega); omega) | (rw [e118]; have w := hft i z a b z0 z1; rw [w]; refine or_congr_right ⟨fun k => ⟨k.1, by omega, k.2.2⟩, fun k => ⟨k.1, ?_, k.2.2⟩⟩; by_cases c : z = g; (exfalso; rw [c] at k; obtain ⟨k1, k2, k3⟩ := k; omega); omega) | (have w := hft i z a b z0 z1; have s := fBt_set (R := σv 118) (e := e) (g := g) g0 (by omega) z0 z1 (e' := i); rw [gUp_own, e118]; refine Iff.trans s ?_; rw [w]; constructor; (rintro ((k | k) | k); exact Or.inl k; exact Or.inr ⟨k.1, by omega, k.2.2⟩; exact Or.inr ⟨k.1, by omega, by rw [k.2]; exact hfit⟩); (rintro (k | k); exact Or.inl (Or.inl k); by_cases c : z = g; exact Or.inr ⟨k.1, c⟩; exact Or.inl (Or.inr ⟨k.1, by omega, k.2.2⟩))))
              · skip
                refine w_iload (pc' := 100) (by rfl) dX6_findFits_98 rfl ?_
                refine w_bipush (pc' := 102) (by decide) (by decide) dX6_findFits_100 rfl ?_
                refine w_icmp_lt (pc' := 105) (t := 225) dX6_findFits_102 rfl rfl (fun c_102 => ?_) (fun c_102 => ?_)
                · skip
                  refine v_iinc (pc' := 228) (x := g) (ls' := [gR 112, gI e, gI t, gI (HD (AR σ0 (σ0 115 e) t) (σ0 113 e)), gI (g + 1), gI ((σ0 45 g) - (σ0 115 e))]) (by (first | omega | (have := hrow (by omega); omega))) (by decide) (by rfl) (by rfl) dX6_findFits_225 rfl ?_
                  refine w_goto (pc' := 34) dX6_findFits_228 rfl ?_
                  refine Wp.lose (ls' := [gR 112, gI e, gI t, gI (HD (AR σ0 (σ0 115 e) t) (σ0 113 e)), gI (g + 1), gX 1]) ⟨.inr rfl, ⟨.inr rfl, ⟨.inr rfl, ⟨.inr rfl, ⟨.inr rfl, ⟨.inl rfl, trivial⟩⟩⟩⟩⟩⟩ ?_
                  have qb : QC σ0 (σv) := hqv
                  exact ih_34 _ (by omega) (g + 1) σv rfl (by omega) (by omega) (by exact qb) (by first | exact hkv | (intro k a b; exact (hk_194 k a).trans (hkv k a b)) | (intro k a b; exact (if_neg b).trans ((hk_194 k a).trans (hkv k a b)))) (by intro i z a b z0 z1; first | (have w := hft i z a b z0 z1; rw [w]; refine or_congr_right ⟨fun k => ⟨k.1, by omega, k.2.2⟩, fun k => ⟨k.1, ?_, k.2.2⟩⟩; by_cases c : z = g; (exfalso; rw [c] at k; obtain ⟨k1, k2, k3⟩ := k; omega); omega) | (rw [e118]; have w := hft i z a b z0 z1; rw [w]; refine or_congr_right ⟨fun k => ⟨k.1, by omega, k.2.2⟩, fun k => ⟨k.1, ?_, k.2.2⟩⟩; by_cases c : z = g; (exfalso; rw [c] at k; obtain ⟨k1, k2, k3⟩ := k; omega); omega) | (have w := hft i z a b z0 z1; have s := fBt_set (R := σv 118) (e := e) (g := g) g0 (by omega) z0 z1 (e' := i); rw [gUp_own, e118]; refine Iff.trans s ?_; rw [w]; constructor; (rintro ((k | k) | k); exact Or.inl k; exact Or.inr ⟨k.1, by omega, k.2.2⟩; exact Or.inr ⟨k.1, by omega, by rw [k.2]; exact hfit⟩); (rintro (k | k); exact Or.inl (Or.inl k); by_cases c : z = g; exact Or.inr ⟨k.1, c⟩; exact Or.inl (Or.inr ⟨k.1, by omega, k.2.2⟩))))
                · skip
                  refine w_iload (pc' := 107) (by rfl) dX6_findFits_105 rfl ?_
                  refine w_iconst (pc' := 108) (by decide) dX6_findFits_107 rfl ?_
                  refine w_icmp_gt (pc' := 111) (t := 225) dX6_findFits_108 rfl rfl (fun c_108 => ?_) (fun c_108 => ?_)
                  · skip
                    refine v_iinc (pc' := 228) (x := g) (ls' := [gR 112, gI e, gI t, gI (HD (AR σ0 (σ0 115 e) t) (σ0 113 e)), gI (g + 1), gI ((σ0 45 g) - (σ0 115 e))]) (by (first | omega | (have := hrow (by omega); omega))) (by decide) (by rfl) (by rfl) dX6_findFits_225 rfl ?_
                    refine w_goto (pc' := 34) dX6_findFits_228 rfl ?_
                    refine Wp.lose (ls' := [gR 112, gI e, gI t, gI (HD (AR σ0 (σ0 115 e) t) (σ0 113 e)), gI (g + 1), gX 1]) ⟨.inr rfl, ⟨.inr rfl, ⟨.inr rfl, ⟨.inr rfl, ⟨.inr rfl, ⟨.inl rfl, trivial⟩⟩⟩⟩⟩⟩ ?_
                    have qb : QC σ0 (σv) := hqv
                    exact ih_34 _ (by omega) (g + 1) σv rfl (by omega) (by omega) (by exact qb) (by first | exact hkv | (intro k a b; exact (hk_194 k a).trans (hkv k a b)) | (intro k a b; exact (if_neg b).trans ((hk_194 k a).trans (hkv k a b)))) (by intro i z a b z0 z1; first | (have w := hft i z a b z0 z1; rw [w]; refine or_congr_right ⟨fun k => ⟨k.1, by omega, k.2.2⟩, fun k => ⟨k.1, ?_, k.2.2⟩⟩; by_cases c : z = g; (exfalso; rw [c] at k; obtain ⟨k1, k2, k3⟩ := k; omega); omega) | (rw [e118]; have w := hft i z a b z0 z1; rw [w]; refine or_congr_right ⟨fun k => ⟨k.1, by omega, k.2.2⟩, fun k => ⟨k.1, ?_, k.2.2⟩⟩; by_cases c : z = g; (exfalso; rw [c] at k; obtain ⟨k1, k2, k3⟩ := k; omega); omega) | (have w := hft i z a b z0 z1; have s := fBt_set (R := σv 118) (e := e) (g := g) g0 (by omega) z0 z1 (e' := i); rw [gUp_own, e118]; refine Iff.trans s ?_; rw [w]; constructor; (rintro ((k | k) | k); exact Or.inl k; exact Or.inr ⟨k.1, by omega, k.2.2⟩; exact Or.inr ⟨k.1, by omega, by rw [k.2]; exact hfit⟩); (rintro (k | k); exact Or.inl (Or.inl k); by_cases c : z = g; exact Or.inr ⟨k.1, c⟩; exact Or.inl (Or.inr ⟨k.1, by omega, k.2.2⟩))))
                  · skip
                    refine w_aload_n (pc' := 112) (i := 0) (by rfl) (by rfl) dX6_findFits_111 rfl ?_
                    refine w_getS (pc' := 115) (q := 41) fg_X6_57 kd_112 sf_X6_2 gr_112_2 dX6_findFits_112 rfl ?_
                    refine w_iload (pc' := 117) (by rfl) dX6_findFits_115 rfl ?_
                    refine w_iload_n (pc' := 118) (i := 2) (by rfl) (by rfl) dX6_findFits_117 rfl ?_
                    refine v_callVE (pc' := 121) (st' := [gI (LEAST σ0 g t)]) (d' := 2) (av := [gI g, gI t]) mi_mX2_leastOf lk_X6_122 rfl ci_X2 kd_41 rfl (Nat.le_of_ble_eq_true rfl) (Nat.le_of_ble_eq_true rfl) dX6_findFits_118 rfl rfl (hmP (F := fun z => gI (LEAST z g t)) (hqv.1) (fun _ => rfl) (g_leastOf σv (hm_FA (hqv.1) hI.1).1.hz g t (gr_n (hqv.1) ⟨by omega, by omega⟩))) ?_
                    refine w_aload_n (pc' := 122) (i := 0) (by rfl) (by rfl) dX6_findFits_121 rfl ?_
                    refine w_getS (pc' := 125) (q := 116) fg_X6_22 kd_112 sf_X6_6 gr_112_6 dX6_findFits_122 rfl ?_
                    refine w_iload_n (pc' := 126) (i := 1) (by rfl) (by rfl) dX6_findFits_125 rfl ?_
                    refine w_iald (pc' := 127) kd_116 (by (first | omega | (have := hrow (by omega); omega))) (by (first | omega | (have := hrow (by omega); omega))) dX6_findFits_126 rfl ?_
                    rw [(hqv).rd (k := 116) (i := e) (.inr rfl)]
                    refine w_icmp_gt (pc' := 130) (t := 225) dX6_findFits_127 rfl rfl (fun c_127 => ?_) (fun c_127 => ?_)
                    · skip
                      refine v_iinc (pc' := 228) (x := g) (ls' := [gR 112, gI e, gI t, gI (HD (AR σ0 (σ0 115 e) t) (σ0 113 e)), gI (g + 1), gI ((σ0 45 g) - (σ0 115 e))]) (by (first | omega | (have := hrow (by omega); omega))) (by decide) (by rfl) (by rfl) dX6_findFits_225 rfl ?_
                      refine w_goto (pc' := 34) dX6_findFits_228 rfl ?_
                      refine Wp.lose (ls' := [gR 112, gI e, gI t, gI (HD (AR σ0 (σ0 115 e) t) (σ0 113 e)), gI (g + 1), gX 1]) ⟨.inr rfl, ⟨.inr rfl, ⟨.inr rfl, ⟨.inr rfl, ⟨.inr rfl, ⟨.inl rfl, trivial⟩⟩⟩⟩⟩⟩ ?_
                      have qb : QC σ0 (σv) := hqv
                      exact ih_34 _ (by omega) (g + 1) σv rfl (by omega) (by omega) (by exact qb) (by first | exact hkv | (intro k a b; exact (hk_194 k a).trans (hkv k a b)) | (intro k a b; exact (if_neg b).trans ((hk_194 k a).trans (hkv k a b)))) (by intro i z a b z0 z1; first | (have w := hft i z a b z0 z1; rw [w]; refine or_congr_right ⟨fun k => ⟨k.1, by omega, k.2.2⟩, fun k => ⟨k.1, ?_, k.2.2⟩⟩; by_cases c : z = g; (exfalso; rw [c] at k; obtain ⟨k1, k2, k3⟩ := k; omega); omega) | (rw [e118]; have w := hft i z a b z0 z1; rw [w]; refine or_congr_right ⟨fun k => ⟨k.1, by omega, k.2.2⟩, fun k => ⟨k.1, ?_, k.2.2⟩⟩; by_cases c : z = g; (exfalso; rw [c] at k; obtain ⟨k1, k2, k3⟩ := k; omega); omega) | (have w := hft i z a b z0 z1; have s := fBt_set (R := σv 118) (e := e) (g := g) g0 (by omega) z0 z1 (e' := i); rw [gUp_own, e118]; refine Iff.trans s ?_; rw [w]; constructor; (rintro ((k | k) | k); exact Or.inl k; exact Or.inr ⟨k.1, by omega, k.2.2⟩; exact Or.inr ⟨k.1, by omega, by rw [k.2]; exact hfit⟩); (rintro (k | k); exact Or.inl (Or.inl k); by_cases c : z = g; exact Or.inr ⟨k.1, c⟩; exact Or.inl (Or.inr ⟨k.1, by omega, k.2.2⟩))))
                    · skip
                      refine w_aload_n (pc' := 131) (i := 0) (by rfl) (by rfl) dX6_findFits_130 rfl ?_
                      refine w_getS (pc' := 134) (q := 116) fg_X6_22 kd_112 sf_X6_6 gr_112_6 dX6_findFits_131 rfl ?_
                      refine w_iload_n (pc' := 135) (i := 1) (by rfl) (by rfl) dX6_findFits_134 rfl ?_
                      refine w_iald (pc' := 136) kd_116 (by (first | omega | (have := hrow (by omega); omega))) (by (first | omega | (have := hrow (by omega); omega))) dX6_findFits_135 rfl ?_
                      rw [(hqv).rd (k := 116) (i := e) (.inr rfl)]
                      refine w_aload_n (pc' := 137) (i := 0) (by rfl) (by rfl) dX6_findFits_136 rfl ?_
                      refine w_getS (pc' := 140) (q := 41) fg_X6_57 kd_112 sf_X6_2 gr_112_2 dX6_findFits_137 rfl ?_
                      refine w_iload (pc' := 142) (by rfl) dX6_findFits_140 rfl ?_
                      refine w_iload_n (pc' := 143) (i := 2) (by rfl) (by rfl) dX6_findFits_142 rfl ?_
                      refine v_callVE (pc' := 146) (st' := [gI (MOST σ0 g t), gI (σ0 116 e)]) (d' := 2) (av := [gI g, gI t]) mi_mX2_mostOf lk_X6_125 rfl ci_X2 kd_41 rfl (Nat.le_of_ble_eq_true rfl) (Nat.le_of_ble_eq_true rfl) dX6_findFits_143 rfl rfl (hmP (F := fun z => gI (MOST z g t)) (hqv.1) (fun _ => rfl) (g_mostOf σv (hm_FA (hqv.1) hI.1).1.hz g t (gr_n (hqv.1) ⟨by omega, by omega⟩))) ?_
                      refine w_icmp_gt (pc' := 149) (t := 225) dX6_findFits_146 rfl rfl (fun c_146 => ?_) (fun c_146 => ?_)
                      · skip
                        refine v_iinc (pc' := 228) (x := g) (ls' := [gR 112, gI e, gI t, gI (HD (AR σ0 (σ0 115 e) t) (σ0 113 e)), gI (g + 1), gI ((σ0 45 g) - (σ0 115 e))]) (by (first | omega | (have := hrow (by omega); omega))) (by decide) (by rfl) (by rfl) dX6_findFits_225 rfl ?_
                        refine w_goto (pc' := 34) dX6_findFits_228 rfl ?_
                        refine Wp.lose (ls' := [gR 112, gI e, gI t, gI (HD (AR σ0 (σ0 115 e) t) (σ0 113 e)), gI (g + 1), gX 1]) ⟨.inr rfl, ⟨.inr rfl, ⟨.inr rfl, ⟨.inr rfl, ⟨.inr rfl, ⟨.inl rfl, trivial⟩⟩⟩⟩⟩⟩ ?_
                        have qb : QC σ0 (σv) := hqv
                        exact ih_34 _ (by omega) (g + 1) σv rfl (by omega) (by omega) (by exact qb) (by first | exact hkv | (intro k a b; exact (hk_194 k a).trans (hkv k a b)) | (intro k a b; exact (if_neg b).trans ((hk_194 k a).trans (hkv k a b)))) (by intro i z a b z0 z1; first | (have w := hft i z a b z0 z1; rw [w]; refine or_congr_right ⟨fun k => ⟨k.1, by omega, k.2.2⟩, fun k => ⟨k.1, ?_, k.2.2⟩⟩; by_cases c : z = g; (exfalso; rw [c] at k; obtain ⟨k1, k2, k3⟩ := k; omega); omega) | (rw [e118]; have w := hft i z a b z0 z1; rw [w]; refine or_congr_right ⟨fun k => ⟨k.1, by omega, k.2.2⟩, fun k => ⟨k.1, ?_, k.2.2⟩⟩; by_cases c : z = g; (exfalso; rw [c] at k; obtain ⟨k1, k2, k3⟩ := k; omega); omega) | (have w := hft i z a b z0 z1; have s := fBt_set (R := σv 118) (e := e) (g := g) g0 (by omega) z0 z1 (e' := i); rw [gUp_own, e118]; refine Iff.trans s ?_; rw [w]; constructor; (rintro ((k | k) | k); exact Or.inl k; exact Or.inr ⟨k.1, by omega, k.2.2⟩; exact Or.inr ⟨k.1, by omega, by rw [k.2]; exact hfit⟩); (rintro (k | k); exact Or.inl (Or.inl k); by_cases c : z = g; exact Or.inr ⟨k.1, c⟩; exact Or.inl (Or.inr ⟨k.1, by omega, k.2.2⟩))))
                      · skip
                        refine w_aload_n (pc' := 150) (i := 0) (by rfl) (by rfl) dX6_findFits_149 rfl ?_
                        refine w_getS (pc' := 153) (q := 3) fg_X6_49 kd_112 sf_X6_0 gr_112_0 dX6_findFits_150 rfl ?_
                        refine w_aload_n (pc' := 154) (i := 0) (by rfl) (by rfl) dX6_findFits_153 rfl ?_
                        refine w_getS (pc' := 157) (q := 41) fg_X6_57 kd_112 sf_X6_2 gr_112_2 dX6_findFits_154 rfl ?_
                        refine w_iload (pc' := 159) (by rfl) dX6_findFits_157 rfl ?_
                        refine v_callVE (pc' := 162) (st' := [gI (σ0 43 g), gR 3]) (d' := 1) (av := [gI g]) mi_mX2_receiver lk_X6_128 rfl ci_X2 kd_41 rfl (Nat.le_of_ble_eq_true rfl) (Nat.le_of_ble_eq_true rfl) dX6_findFits_159 rfl rfl (hmP (F := fun z => gI (z 43 g)) (hqv.1) (fun _ => rfl) (gi_receiver σv (hm_FA (hqv.1) hI.1).1.hz g (gr_n (hqv.1) ⟨by omega, by omega⟩))) ?_
                        refine w_aload_n (pc' := 163) (i := 0) (by rfl) (by rfl) dX6_findFits_162 rfl ?_
                        refine w_getS (pc' := 166) (q := 114) fg_X6_15 kd_112 sf_X6_4 gr_112_4 dX6_findFits_163 rfl ?_
                        refine w_iload_n (pc' := 167) (i := 1) (by rfl) (by rfl) dX6_findFits_166 rfl ?_
                        refine w_lald (pc' := 168) kd_114 (by (first | omega | (have := hrow (by omega); omega))) (by (first | omega | (have := hrow (by omega); omega))) dX6_findFits_167 rfl ?_
                        rw [(hqv).rd (k := 114) (i := e) (.inr rfl)]
                        refine v_callVE (pc' := 171) (st' := [gI (gb ((0 ≤ (σ0 43 g) ∧ (σ0 43 g) < σ0 3 2) ∧ σ0 5 (σ0 43 g) = (σ0 114 e)))]) (d' := 1) (av := [gI (σ0 43 g), gJ (σ0 114 e)]) mi_mX8_isNamed lk_X6_131 rfl ci_X8 kd_3 rfl (Nat.le_of_ble_eq_true rfl) (Nat.le_of_ble_eq_true rfl) dX6_findFits_168 rfl rfl (kj_isNamed hI hqv (σ0 43 g) (σ0 114 e)) ?_
                        refine v_if_eqB (pc' := 174) (t := 225) dX6_findFits_171 rfl rfl (fun c_171 => ?_) (fun c_171 => ?_)
                        · skip
                          refine v_iinc (pc' := 228) (x := g) (ls' := [gR 112, gI e, gI t, gI (HD (AR σ0 (σ0 115 e) t) (σ0 113 e)), gI (g + 1), gI ((σ0 45 g) - (σ0 115 e))]) (by (first | omega | (have := hrow (by omega); omega))) (by decide) (by rfl) (by rfl) dX6_findFits_225 rfl ?_
                          refine w_goto (pc' := 34) dX6_findFits_228 rfl ?_
                          refine Wp.lose (ls' := [gR 112, gI e, gI t, gI (HD (AR σ0 (σ0 115 e) t) (σ0 113 e)), gI (g + 1), gX 1]) ⟨.inr rfl, ⟨.inr rfl, ⟨.inr rfl, ⟨.inr rfl, ⟨.inr rfl, ⟨.inl rfl, trivial⟩⟩⟩⟩⟩⟩ ?_
                          have qb : QC σ0 (σv) := hqv
                          exact ih_34 _ (by omega) (g + 1) σv rfl (by omega) (by omega) (by exact qb) (by first | exact hkv | (intro k a b; exact (hk_194 k a).trans (hkv k a b)) | (intro k a b; exact (if_neg b).trans ((hk_194 k a).trans (hkv k a b)))) (by intro i z a b z0 z1; first | (have w := hft i z a b z0 z1; rw [w]; refine or_congr_right ⟨fun k => ⟨k.1, by omega, k.2.2⟩, fun k => ⟨k.1, ?_, k.2.2⟩⟩; by_cases c : z = g; (exfalso; rw [c] at k; obtain ⟨k1, k2, k3⟩ := k; omega); omega) | (rw [e118]; have w := hft i z a b z0 z1; rw [w]; refine or_congr_right ⟨fun k => ⟨k.1, by omega, k.2.2⟩, fun k => ⟨k.1, ?_, k.2.2⟩⟩; by_cases c : z = g; (exfalso; rw [c] at k; obtain ⟨k1, k2, k3⟩ := k; omega); omega) | (have w := hft i z a b z0 z1; have s := fBt_set (R := σv 118) (e := e) (g := g) g0 (by omega) z0 z1 (e' := i); rw [gUp_own, e118]; refine Iff.trans s ?_; rw [w]; constructor; (rintro ((k | k) | k); exact Or.inl k; exact Or.inr ⟨k.1, by omega, k.2.2⟩; exact Or.inr ⟨k.1, by omega, by rw [k.2]; exact hfit⟩); (rintro (k | k); exact Or.inl (Or.inl k); by_cases c : z = g; exact Or.inr ⟨k.1, c⟩; exact Or.inl (Or.inr ⟨k.1, by omega, k.2.2⟩))))
                        · skip
                          refine w_aload_n (pc' := 175) (i := 0) (by rfl) (by rfl) dX6_findFits_174 rfl ?_
                          refine w_getS (pc' := 178) (q := 14) fg_X6_53 kd_112 sf_X6_1 gr_112_1 dX6_findFits_175 rfl ?_
                          refine w_aload_n (pc' := 179) (i := 0) (by rfl) (by rfl) dX6_findFits_178 rfl ?_
                          refine w_getS (pc' := 182) (q := 41) fg_X6_57 kd_112 sf_X6_2 gr_112_2 dX6_findFits_179 rfl ?_
                          refine w_iload (pc' := 184) (by rfl) dX6_findFits_182 rfl ?_
                          refine v_callVE (pc' := 187) (st' := [gI (σ0 42 g), gR 14]) (d' := 1) (av := [gI g]) mi_mX2_giver lk_X6_135 rfl ci_X2 kd_41 rfl (Nat.le_of_ble_eq_true rfl) (Nat.le_of_ble_eq_true rfl) dX6_findFits_184 rfl rfl (hmP (F := fun z => gI (z 42 g)) (hqv.1) (fun _ => rfl) (gi_giver σv (hm_FA (hqv.1) hI.1).1.hz g (gr_n (hqv.1) ⟨by omega, by omega⟩))) ?_
                          refine w_aload_n (pc' := 188) (i := 0) (by rfl) (by rfl) dX6_findFits_187 rfl ?_
                          refine w_getS (pc' := 191) (q := 115) fg_X6_19 kd_112 sf_X6_5 gr_112_5 dX6_findFits_188 rfl ?_
                          refine w_iload_n (pc' := 192) (i := 1) (by rfl) (by rfl) dX6_findFits_191 rfl ?_
                          refine w_iald (pc' := 193) kd_115 (by (first | omega | (have := hrow (by omega); omega))) (by (first | omega | (have := hrow (by omega); omega))) dX6_findFits_192 rfl ?_
                          rw [(hqv).rd (k := 115) (i := e) (.inr rfl)]
                          refine w_iload_n (pc' := 194) (i := 2) (by rfl) (by rfl) dX6_findFits_193 rfl ?_
                          refine w_callV (pc' := 197) (d' := 3) (av := [gI (σ0 42 g), gI (σ0 115 e), gI t]) mi_mX7_headOf lk_X6_101 rfl ci_X7 kd_14 rfl (Nat.le_of_ble_eq_true rfl) (Nat.le_of_ble_eq_true rfl) dX6_findFits_194 rfl (k_headOf hI hqv (σ0 42 g) (σ0 115 e) t (by (first | omega | (have := hrow (by omega); omega)))) (fun v_194 σ194 q_194 => ?_)
                          obtain ⟨rfl, hq_194, hk_194⟩ := q_194
                          show Wp _ _ _ _ _ _ [gI (HD (AR σ0 (σ0 115 e) t) (σ0 42 g))]
                          refine w_iload_n (pc' := 198) (i := 3) (by rfl) (by rfl) dX6_findFits_197 rfl ?_
                          refine w_icmp_ne (pc' := 201) (t := 225) dX6_findFits_198 rfl rfl (fun c_198 => ?_) (fun c_198 => ?_)
                          · skip
                            refine v_iinc (pc' := 228) (x := g) (ls' := [gR 112, gI e, gI t, gI (HD (AR σ0 (σ0 115 e) t) (σ0 113 e)), gI (g + 1), gI ((σ0 45 g) - (σ0 115 e))]) (by (first | omega | (have := hrow (by omega); omega))) (by decide) (by rfl) (by rfl) dX6_findFits_225 rfl ?_
                            refine w_goto (pc' := 34) dX6_findFits_228 rfl ?_
                            refine Wp.lose (ls' := [gR 112, gI e, gI t, gI (HD (AR σ0 (σ0 115 e) t) (σ0 113 e)), gI (g + 1), gX 1]) ⟨.inr rfl, ⟨.inr rfl, ⟨.inr rfl, ⟨.inr rfl, ⟨.inr rfl, ⟨.inl rfl, trivial⟩⟩⟩⟩⟩⟩ ?_
                            have qb : QC σ0 (σ194) := hq_194
                            have e118 : σ194 118 = σv 118 := hk_194 118 (by decide)
                            exact ih_34 _ (by omega) (g + 1) σ194 rfl (by omega) (by omega) (by exact qb) (by first | exact hkv | (intro k a b; exact (hk_194 k a).trans (hkv k a b)) | (intro k a b; exact (if_neg b).trans ((hk_194 k a).trans (hkv k a b)))) (by intro i z a b z0 z1; first | (have w := hft i z a b z0 z1; rw [w]; refine or_congr_right ⟨fun k => ⟨k.1, by omega, k.2.2⟩, fun k => ⟨k.1, ?_, k.2.2⟩⟩; by_cases c : z = g; (exfalso; rw [c] at k; obtain ⟨k1, k2, k3⟩ := k; omega); omega) | (rw [e118]; have w := hft i z a b z0 z1; rw [w]; refine or_congr_right ⟨fun k => ⟨k.1, by omega, k.2.2⟩, fun k => ⟨k.1, ?_, k.2.2⟩⟩; by_cases c : z = g; (exfalso; rw [c] at k; obtain ⟨k1, k2, k3⟩ := k; omega); omega) | (have w := hft i z a b z0 z1; have s := fBt_set (R := σv 118) (e := e) (g := g) g0 (by omega) z0 z1 (e' := i); rw [gUp_own, e118]; refine Iff.trans s ?_; rw [w]; constructor; (rintro ((k | k) | k); exact Or.inl k; exact Or.inr ⟨k.1, by omega, k.2.2⟩; exact Or.inr ⟨k.1, by omega, by rw [k.2]; exact hfit⟩); (rintro (k | k); exact Or.inl (Or.inl k); by_cases c : z = g; exact Or.inr ⟨k.1, c⟩; exact Or.inl (Or.inr ⟨k.1, by omega, k.2.2⟩))))
                          · skip
                            have hfit : fitP σ0 t e g := by omega
                            refine w_aload_n (pc' := 202) (i := 0) (by rfl) (by rfl) dX6_findFits_201 rfl ?_
                            refine w_getS (pc' := 205) (q := 118) fg_X6_28 kd_112 sf_X6_9 gr_112_9 dX6_findFits_202 rfl ?_
                            refine w_iload_n (pc' := 206) (i := 1) (by rfl) (by rfl) dX6_findFits_205 rfl ?_
                            refine w_iconst (pc' := 207) (by decide) dX6_findFits_206 rfl ?_
                            refine v_imul (pc' := 208) (by (first | omega | (have := hrow (by omega); omega))) dX6_findFits_207 rfl ?_
                            refine w_iload (pc' := 210) (by rfl) dX6_findFits_208 rfl ?_
                            refine w_bipush (pc' := 212) (by decide) (by decide) dX6_findFits_210 rfl ?_
                            refine w_idiv (pc' := 213) (by (first | omega | (have := hrow (by omega); omega))) dX6_findFits_212 rfl ?_
                            refine v_iadd (pc' := 214) (by have := hm (by omega); omega) dX6_findFits_213 rfl ?_
                            refine w_dup2 (pc' := 215) dX6_findFits_214 rfl ?_
                            refine w_lald (pc' := 216) kd_118 (by have := hm (by omega); omega) (by have := hm (by omega); omega) dX6_findFits_215 rfl ?_
                            rw [(hk_194).rd (k := 118) (i := (e * 2) + (w32 (g.tdiv 64))) (by decide)]
                            refine w_lconst (n := 1) (pc' := 217) (by decide) (by decide) dX6_findFits_216 rfl ?_
                            refine w_iload (pc' := 219) (by rfl) dX6_findFits_217 rfl ?_
                            refine w_bipush (pc' := 221) (by decide) (by decide) dX6_findFits_219 rfl ?_
                            refine w_irem (pc' := 222) (by (first | omega | (have := hrow (by omega); omega))) dX6_findFits_221 rfl ?_
                            refine w_lshl (pc' := 223) dX6_findFits_222 rfl ?_
                            refine w_lor (pc' := 224) dX6_findFits_223 rfl ?_
                            refine w_last (pc' := 225) kd_118 (by have := hm (by omega); omega) (by have := hm (by omega); omega) dX6_findFits_224 rfl ?_
                            refine v_iinc (pc' := 228) (x := g) (ls' := [gR 112, gI e, gI t, gI (HD (AR σ0 (σ0 115 e) t) (σ0 113 e)), gI (g + 1), gI ((σ0 45 g) - (σ0 115 e))]) (by (first | omega | (have := hrow (by omega); omega))) (by decide) (by rfl) (by rfl) dX6_findFits_225 rfl ?_
                            refine w_goto (pc' := 34) dX6_findFits_228 rfl ?_
                            refine Wp.lose (ls' := [gR 112, gI e, gI t, gI (HD (AR σ0 (σ0 115 e) t) (σ0 113 e)), gI (g + 1), gX 1]) ⟨.inr rfl, ⟨.inr rfl, ⟨.inr rfl, ⟨.inr rfl, ⟨.inr rfl, ⟨.inl rfl, trivial⟩⟩⟩⟩⟩⟩ ?_
                            have qb : QC σ0 (gUp σ194 118 ((e * 2) + (w32 (g.tdiv 64))) (gB64 (fun a b => a ||| b) (σv 118 ((e * 2) + (w32 (g.tdiv 64)))) (gS64 (fun a b => a <<< b) 1 (w32 (g.tmod 64))))) := (QC.up (k := 118) (i := ((e * 2) + (w32 (g.tdiv 64)))) (v := (gB64 (fun a b => a ||| b) (σv 118 ((e * 2) + (w32 (g.tdiv 64)))) (gS64 (fun a b => a <<< b) 1 (w32 (g.tmod 64))))) hq_194 (hm_nfC 118 (by decide) _) (fun h => h))
                            have e118 : σ194 118 = σv 118 := hk_194 118 (by decide)
                            exact ih_34 _ (by omega) (g + 1) (gUp σ194 118 ((e * 2) + (w32 (g.tdiv 64))) (gB64 (fun a b => a ||| b) (σv 118 ((e * 2) + (w32 (g.tdiv 64)))) (gS64 (fun a b => a <<< b) 1 (w32 (g.tmod 64))))) rfl (by omega) (by omega) (by exact qb) (by first | exact hkv | (intro k a b; exact (hk_194 k a).trans (hkv k a b)) | (intro k a b; exact (if_neg b).trans ((hk_194 k a).trans (hkv k a b)))) (by intro i z a b z0 z1; first | (have w := hft i z a b z0 z1; rw [w]; refine or_congr_right ⟨fun k => ⟨k.1, by omega, k.2.2⟩, fun k => ⟨k.1, ?_, k.2.2⟩⟩; by_cases c : z = g; (exfalso; rw [c] at k; obtain ⟨k1, k2, k3⟩ := k; omega); omega) | (rw [e118]; have w := hft i z a b z0 z1; rw [w]; refine or_congr_right ⟨fun k => ⟨k.1, by omega, k.2.2⟩, fun k => ⟨k.1, ?_, k.2.2⟩⟩; by_cases c : z = g; (exfalso; rw [c] at k; obtain ⟨k1, k2, k3⟩ := k; omega); omega) | (have w := hft i z a b z0 z1; have s := fBt_set (R := σv 118) (e := e) (g := g) g0 (by omega) z0 z1 (e' := i); rw [gUp_own, e118]; refine Iff.trans s ?_; rw [w]; constructor; (rintro ((k | k) | k); exact Or.inl k; exact Or.inr ⟨k.1, by omega, k.2.2⟩; exact Or.inr ⟨k.1, by omega, by rw [k.2]; exact hfit⟩); (rintro (k | k); exact Or.inl (Or.inl k); by_cases c : z = g; exact Or.inr ⟨k.1, c⟩; exact Or.inl (Or.inr ⟨k.1, by omega, k.2.2⟩))))
    exact hl_34 _ 0 σ27 rfl (by omega) (by omega) (by exact hq_27) (by intro k a _; exact hk_27 k a) (by intro i z a b z0 z1; rw [show σ27 118 = σ 118 from hk_27 118 (by decide)]; exact ⟨Or.inl, fun k => k.resolve_right (fun w => by omega)⟩)
  · skip
    refine w_return rfl dX6_findFits_9 ?_
    exact ⟨rfl, hq, fun k _ _ => rfl, fun i z a b z0 z1 => ⟨Or.inl, fun k => k.resolve_right (fun w => by obtain ⟨w1, w2, w3⟩ := w; omega)⟩⟩
