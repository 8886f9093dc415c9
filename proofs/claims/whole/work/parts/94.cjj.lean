/-! joined: the class, the whole (gen/mod_cjj.py) -/
theorem gUp_own {σ : gH} {k : Nat} {i v : Int} : gUp σ k i v k = updI (σ k) i v := if_pos rfl
abbrev fitQ (σ : gH) (t e g : Int) : Prop := g < σ 41 11 ∧ fitP σ t e g
theorem ISL_120 {E G : Int} {F : Int → Int → Prop} {M : Int → Int} (hG : G ≤ 120) (h : ISL E 120 (fun e g => g < G ∧ F e g) M) : ISL E G F M := by
  have k : MT E 120 (fun e g => g < G ∧ F e g) = MT E G F := funext fun A => propext ⟨fun q => ⟨fun e a b => (q.1 e a b).imp id (fun r => ⟨r.1, r.2.2.1, r.2.2.2⟩), q.2⟩, fun q => ⟨fun e a b => (q.1 e a b).imp id (fun r => ⟨r.1, by omega, r.2.1, r.2.2⟩), q.2⟩⟩
  unfold ISL OPT MXM at *
  rw [k] at h
  exact h
theorem fBt_0 {R : Int → Int} {e z : Int} (h : ∀ i, 0 ≤ i → i < 200 → R i = 0) (e0 : 0 ≤ e) (e1 : e < 100) (h0 : 0 ≤ z) (h1 : z < 120) : ¬ fBt R e z := by
  have m := hfmd h0 h1
  unfold fBt
  rw [h _ (by omega) (by omega)]
  exact bitI_0 m.2.1.1 m.2.1.2
theorem oBt_1 {R : Int → Int} {z : Int} (h : ∀ i, 0 ≤ i → i < 2 → R i = -1) (h0 : 0 ≤ z) (h1 : z < 120) : oBt R z := by
  have m := hfmd h0 h1
  unfold oBt
  rw [h _ (by omega) (by omega)]
  exact bitI_m1 m.2.1.1 m.2.1.2
theorem MX_sz {E G : Int} {F : Int → Int → Prop} {M M' : Int → Int} (h : MXM E G F M) (h' : MXM E G F M') : szM E M = szM E M' := Int.le_antisymm (h'.2 M h.1) (h.2 M' h'.1)
theorem kj_isNamed {σ0 σ : gH} (hI : Inv σ0) (hq : QC σ0 σ) (x n : Int) : Mt mX8_isNamed 1 [gR 3, gI x, gJ n] σ (rE (gI (gb ((0 ≤ x ∧ x < σ0 3 2) ∧ σ0 5 x = n))) σ) := by
  refine Mt.walk (ls := [gR 3, gI x, gJ n, gX 1]) pn_X8 rfl (fun _ _ h => by cases h.1) (Nat.le_of_ble_eq_true rfl) rfl ?_
  have hp := hI.f.hp
  have hc := gCmp_eq (x := σ0 5 x) (y := n)
  refine w_aload_n (pc' := 1) (i := 0) (by rfl) (by rfl) dX8_isNamed_0 rfl ?_
  refine w_iload_n (pc' := 2) (i := 1) (by rfl) (by rfl) dX8_isNamed_1 rfl ?_
  refine v_callVE (pc' := 5) (st' := [gI (gb (0 ≤ x ∧ x < (σ0 3 2)))]) (d' := 0) (av := [gI x]) mi_mX8_has lk_X8_40 rfl ci_X8 kd_3 rfl (Nat.le_of_ble_eq_true rfl) (Nat.le_of_ble_eq_true rfl) dX8_isNamed_2 rfl rfl (hmP (F := fun z => gI (gb (0 ≤ x ∧ x < (z 3 2)))) (hq.1) (fun _ => rfl) (pa_has σ (hm_FA (hq.1) hI.1).1.hp x)) ?_
  refine v_if_eqB (pc' := 8) (t := 23) dX8_isNamed_5 rfl rfl (fun c_5 => ?_) (fun c_5 => ?_)
  · skip
    refine w_iconst (pc' := 24) (by decide) dX8_isNamed_23 rfl ?_
    refine w_zreturn rfl (.inl rfl) dX8_isNamed_24 ?_
    first | (exfalso; omega) | exact ⟨congrArg gI (gb_t (by omega)).symm, rfl⟩ | exact ⟨congrArg gI (gb_f (by omega)).symm, rfl⟩
  · skip
    refine w_aload_n (pc' := 9) (i := 0) (by rfl) (by rfl) dX8_isNamed_8 rfl ?_
    refine w_getS (pc' := 12) (q := 5) fg_X8_15 kd_3 sf_X8_1 gr_3_1 dX8_isNamed_9 rfl ?_
    refine w_iload_n (pc' := 13) (i := 1) (by rfl) (by rfl) dX8_isNamed_12 rfl ?_
    refine w_lald (pc' := 14) kd_5 (by omega) (by omega) dX8_isNamed_13 rfl ?_
    rw [(hq).rd (k := 5) (i := x) (.inr rfl)]
    refine w_lload_n (pc' := 15) (i := 2) (by rfl) (by rfl) dX8_isNamed_14 rfl ?_
    refine w_lcmp (pc' := 16) dX8_isNamed_15 rfl ?_
    refine w_if_ne (pc' := 19) (t := 23) dX8_isNamed_16 rfl rfl (fun c_16 => ?_) (fun c_16 => ?_)
    · skip
      refine w_iconst (pc' := 24) (by decide) dX8_isNamed_23 rfl ?_
      refine w_zreturn rfl (.inl rfl) dX8_isNamed_24 ?_
      first | (exfalso; omega) | exact ⟨congrArg gI (gb_t (by omega)).symm, rfl⟩ | exact ⟨congrArg gI (gb_f (by omega)).symm, rfl⟩
    · skip
      refine w_iconst (pc' := 20) (by decide) dX8_isNamed_19 rfl ?_
      refine w_goto (pc' := 24) dX8_isNamed_20 rfl ?_
      refine w_zreturn rfl (.inr rfl) dX8_isNamed_24 ?_
      first | (exfalso; omega) | exact ⟨congrArg gI (gb_t (by omega)).symm, rfl⟩ | exact ⟨congrArg gI (gb_f (by omega)).symm, rfl⟩
set_option maxHeartbeats 4000000 in
theorem kj_findFits {σ0 σ : gH} (hI : Inv σ0) (hq : QC σ0 σ) (e t : Int) (he : 0 ≤ e ∧ e < σ0 112 8) (hk : σ0 117 e ≤ t) : Mt mX6_findFits 4 [gR 112, gI e, gI t] σ (fun v σ' => v = gX 1 ∧ QC σ0 σ' ∧ (∀ k, 34 ≤ k → k ≠ 118 → σ' k = σ k) ∧ ∀ i z, 0 ≤ i → i < 100 → 0 ≤ z → z < 120 → (fBt (σ' 118) i z ↔ fBt (σ 118) i z ∨ (i = e ∧ z < σ0 41 11 ∧ fitP σ0 t e z))) := by
  refine Mt.walk (ls := [gR 112, gI e, gI t, gX 1, gX 1, gX 1]) pn_X6 rfl (fun _ _ h => by cases h.1) (Nat.le_of_ble_eq_true rfl) rfl ?_
  have hz0 := hI.f.hz
  have hp60 := hI.f.hp
  have hen := hI.f.ent.2.2.1
  have her := ent_row hI he.1 he.2
  have her1 := her.1
  have her3 := her.2.2
  clear her
  refine w_aload_n (pc' := 1) (i := 0) (by rfl) (by rfl) dX6_findFits_0 rfl ?_
  refine w_getS (pc' := 4) (q := 14) fg_X6_53 kd_112 sf_X6_1 gr_112_1 dX6_findFits_1 rfl ?_
  refine w_aload_n (pc' := 5) (i := 0) (by rfl) (by rfl) dX6_findFits_4 rfl ?_
  refine w_getS (pc' := 8) (q := 113) fg_X6_11 kd_112 sf_X6_3 gr_112_3 dX6_findFits_5 rfl ?_
  refine w_iload_n (pc' := 9) (i := 1) (by rfl) (by rfl) dX6_findFits_8 rfl ?_
  refine w_iald (pc' := 10) kd_113 (by (first | omega | (have := hrow (by omega); omega))) (by (first | omega | (have := hrow (by omega); omega))) dX6_findFits_9 rfl ?_
  rw [(hq).rd (k := 113) (i := e) (.inr rfl)]
  refine w_aload_n (pc' := 11) (i := 0) (by rfl) (by rfl) dX6_findFits_10 rfl ?_
  refine w_getS (pc' := 14) (q := 115) fg_X6_19 kd_112 sf_X6_5 gr_112_5 dX6_findFits_11 rfl ?_
  refine w_iload_n (pc' := 15) (i := 1) (by rfl) (by rfl) dX6_findFits_14 rfl ?_
  refine w_iald (pc' := 16) kd_115 (by (first | omega | (have := hrow (by omega); omega))) (by (first | omega | (have := hrow (by omega); omega))) dX6_findFits_15 rfl ?_
  rw [(hq).rd (k := 115) (i := e) (.inr rfl)]
  refine w_iload_n (pc' := 17) (i := 2) (by rfl) (by rfl) dX6_findFits_16 rfl ?_
  refine w_callV (pc' := 20) (d' := 3) (av := [gI (σ0 113 e), gI (σ0 115 e), gI t]) mi_mX7_headOf lk_X6_94 rfl ci_X7 kd_14 rfl (Nat.le_of_ble_eq_true rfl) (Nat.le_of_ble_eq_true rfl) dX6_findFits_17 rfl (k_headOf hI hq (σ0 113 e) (σ0 115 e) t (by (first | omega | (have := hrow (by omega); omega)))) (fun v_17 σ17 q_17 => ?_)
  obtain ⟨rfl, hq_17, hk_17⟩ := q_17
  show Wp _ _ _ _ _ _ [gI (HD (AR σ0 (σ0 115 e) t) (σ0 113 e))]
  refine w_istore_n (pc' := 21) (i := 3) (ls' := [gR 112, gI e, gI t, gI (HD (AR σ0 (σ0 115 e) t) (σ0 113 e)), gX 1, gX 1]) (by rfl) (by decide) (by rfl) dX6_findFits_20 rfl ?_
  refine w_iconst (pc' := 22) (by decide) dX6_findFits_21 rfl ?_
  refine w_istore (pc' := 24) (ls' := [gR 112, gI e, gI t, gI (HD (AR σ0 (σ0 115 e) t) (σ0 113 e)), gI 0, gX 1]) (by decide) (by rfl) dX6_findFits_22 rfl ?_
  have hl_24 : ∀ (mm : Nat) (g : Int) (σv : gH), (σ0 41 11 - g).toNat = mm → (0 ≤ g) → (g ≤ σ0 41 11) → (QC σ0 σv) → (∀ k, 34 ≤ k → k ≠ 118 → σv k = σ k) → (∀ i z, 0 ≤ i → i < 100 → 0 ≤ z → z < 120 → (fBt (σv 118) i z ↔ fBt (σ 118) i z ∨ (i = e ∧ z < g ∧ fitP σ0 t e z))) → Wp mX6_findFits 4 (fun v σ' => v = gX 1 ∧ QC σ0 σ' ∧ (∀ k, 34 ≤ k → k ≠ 118 → σ' k = σ k) ∧ ∀ i z, 0 ≤ i → i < 100 → 0 ≤ z → z < 120 → (fBt (σ' 118) i z ↔ fBt (σ 118) i z ∨ (i = e ∧ z < σ0 41 11 ∧ fitP σ0 t e z))) σv 24 [gR 112, gI e, gI t, gI (HD (AR σ0 (σ0 115 e) t) (σ0 113 e)), gI g, gX 1] [] := by
    intro m_24
    induction m_24 using Nat.strongRecOn with
    | _ m_24 ih_24 =>
      intro g σv hmeas_24 g0 g1 hqv hkv hft
      have hrow := fun h : g < σ0 41 11 => gift_row hI g0 h
      have hm := fun h : g < σ0 41 11 => hfmd g0 (show g < 120 by omega)
      refine w_iload (pc' := 26) (by rfl) dX6_findFits_24 rfl ?_
      refine w_aload_n (pc' := 27) (i := 0) (by rfl) (by rfl) dX6_findFits_26 rfl ?_
      refine w_getS (pc' := 30) (q := 41) fg_X6_57 kd_112 sf_X6_2 gr_112_2 dX6_findFits_27 rfl ?_
      refine v_callVE (pc' := 33) (st' := [gI (σ0 41 11), gI g]) (d' := 0) (av := []) mi_mX2_total lk_X6_100 rfl ci_X2 kd_41 rfl (Nat.le_of_ble_eq_true rfl) (Nat.le_of_ble_eq_true rfl) dX6_findFits_30 rfl rfl (hmP (F := fun z => gI (z 41 11)) (hqv.1) (fun _ => rfl) (g_total σv (hm_FA (hqv.1) hI.1).1.hz)) ?_
      refine w_icmp_ge (pc' := 36) (t := 221) dX6_findFits_33 rfl rfl (fun c_33 => ?_) (fun c_33 => ?_)
      · skip
        refine w_return rfl dX6_findFits_221 ?_
        exact ⟨rfl, hqv, hkv, fun i z a b z0 z1 => by have w := hft i z a b z0 z1; rw [show g = σ0 41 11 by omega] at w; exact w⟩
      · skip
        refine w_iload (pc' := 38) (by rfl) dX6_findFits_36 rfl ?_
        refine w_bipush (pc' := 40) (by decide) (by decide) dX6_findFits_38 rfl ?_
        refine w_icmp_ge (pc' := 43) (t := 221) dX6_findFits_40 rfl rfl (fun c_40 => ?_) (fun c_40 => ?_)
        · skip
          refine w_return rfl dX6_findFits_221 ?_
          exact ⟨rfl, hqv, hkv, fun i z a b z0 z1 => by have w := hft i z a b z0 z1; rw [show g = σ0 41 11 by omega] at w; exact w⟩
        · skip
          refine w_aload_n (pc' := 44) (i := 0) (by rfl) (by rfl) dX6_findFits_43 rfl ?_
          refine w_getS (pc' := 47) (q := 41) fg_X6_57 kd_112 sf_X6_2 gr_112_2 dX6_findFits_44 rfl ?_
          refine w_iload (pc' := 49) (by rfl) dX6_findFits_47 rfl ?_
          refine v_callVE (pc' := 52) (st' := [gI (σ0 45 g)]) (d' := 1) (av := [gI g]) mi_mX2_dayOf lk_X6_106 rfl ci_X2 kd_41 rfl (Nat.le_of_ble_eq_true rfl) (Nat.le_of_ble_eq_true rfl) dX6_findFits_49 rfl rfl (hmP (F := fun z => gI (z 45 g)) (hqv.1) (fun _ => rfl) (gi_dayOf σv (hm_FA (hqv.1) hI.1).1.hz g (gr_n (hqv.1) ⟨by omega, by omega⟩))) ?_
          refine w_aload_n (pc' := 53) (i := 0) (by rfl) (by rfl) dX6_findFits_52 rfl ?_
          refine w_getS (pc' := 56) (q := 115) fg_X6_19 kd_112 sf_X6_5 gr_112_5 dX6_findFits_53 rfl ?_
          refine w_iload_n (pc' := 57) (i := 1) (by rfl) (by rfl) dX6_findFits_56 rfl ?_
          refine w_iald (pc' := 58) kd_115 (by (first | omega | (have := hrow (by omega); omega))) (by (first | omega | (have := hrow (by omega); omega))) dX6_findFits_57 rfl ?_
          rw [(hqv).rd (k := 115) (i := e) (.inr rfl)]
          refine v_isub (pc' := 59) (by (first | omega | (have := hrow (by omega); omega))) dX6_findFits_58 rfl ?_
          refine w_istore (pc' := 61) (ls' := [gR 112, gI e, gI t, gI (HD (AR σ0 (σ0 115 e) t) (σ0 113 e)), gI g, gI ((σ0 45 g) - (σ0 115 e))]) (by decide) (by rfl) dX6_findFits_59 rfl ?_
          refine w_aload_n (pc' := 62) (i := 0) (by rfl) (by rfl) dX6_findFits_61 rfl ?_
          refine w_getS (pc' := 65) (q := 41) fg_X6_57 kd_112 sf_X6_2 gr_112_2 dX6_findFits_62 rfl ?_
          refine w_iload (pc' := 67) (by rfl) dX6_findFits_65 rfl ?_
          refine w_iload_n (pc' := 68) (i := 2) (by rfl) (by rfl) dX6_findFits_67 rfl ?_
          refine v_callVE (pc' := 71) (st' := [gI (gb ((0 ≤ g ∧ g < σ0 41 11) ∧ σ0 49 g ≤ t))]) (d' := 1) (av := [gI g, gI t]) mi_mX2_isKnown lk_X6_110 rfl ci_X2 kd_41 rfl (Nat.le_of_ble_eq_true rfl) (Nat.le_of_ble_eq_true rfl) dX6_findFits_68 rfl rfl (hmP (F := fun z => gI (gb ((0 ≤ g ∧ g < z 41 11) ∧ z 49 g ≤ t))) (hqv.1) (fun _ => rfl) (g_isKnown σv (hm_FA (hqv.1) hI.1).1.hz g t)) ?_
          refine v_if_eqB (pc' := 74) (t := 215) dX6_findFits_71 rfl rfl (fun c_71 => ?_) (fun c_71 => ?_)
          · skip
            refine v_iinc (pc' := 218) (x := g) (ls' := [gR 112, gI e, gI t, gI (HD (AR σ0 (σ0 115 e) t) (σ0 113 e)), gI (g + 1), gI ((σ0 45 g) - (σ0 115 e))]) (by (first | omega | (have := hrow (by omega); omega))) (by decide) (by rfl) (by rfl) dX6_findFits_215 rfl ?_
            refine w_goto (pc' := 24) dX6_findFits_218 rfl ?_
            refine Wp.lose (ls' := [gR 112, gI e, gI t, gI (HD (AR σ0 (σ0 115 e) t) (σ0 113 e)), gI (g + 1), gX 1]) ⟨.inr rfl, ⟨.inr rfl, ⟨.inr rfl, ⟨.inr rfl, ⟨.inr rfl, ⟨.inl rfl, trivial⟩⟩⟩⟩⟩⟩ ?_
            have qb : QC σ0 (σv) := hqv
            exact ih_24 _ (by omega) (g + 1) σv rfl (by omega) (by omega) (by exact qb) (by first | exact hkv | (intro k a b; exact (hk_184 k a).trans (hkv k a b)) | (intro k a b; exact (if_neg b).trans ((hk_184 k a).trans (hkv k a b)))) (by intro i z a b z0 z1; first | (have w := hft i z a b z0 z1; rw [w]; refine or_congr_right ⟨fun k => ⟨k.1, by omega, k.2.2⟩, fun k => ⟨k.1, ?_, k.2.2⟩⟩; by_cases c : z = g; (exfalso; rw [c] at k; obtain ⟨k1, k2, k3⟩ := k; omega); omega) | (rw [e118]; have w := hft i z a b z0 z1; rw [w]; refine or_congr_right ⟨fun k => ⟨k.1, by omega, k.2.2⟩, fun k => ⟨k.1, ?_, k.2.2⟩⟩; by_cases c : z = g; (exfalso; rw [c] at k; obtain ⟨k1, k2, k3⟩ := k; omega); omega) | (have w := hft i z a b z0 z1; have s := fBt_set (R := σv 118) (e := e) (g := g) g0 (by omega) z0 z1 (e' := i); rw [gUp_own, e118]; refine Iff.trans s ?_; rw [w]; constructor; (rintro ((k | k) | k); exact Or.inl k; exact Or.inr ⟨k.1, by omega, k.2.2⟩; exact Or.inr ⟨k.1, by omega, by rw [k.2]; exact hfit⟩); (rintro (k | k); exact Or.inl (Or.inl k); by_cases c : z = g; exact Or.inr ⟨k.1, c⟩; exact Or.inl (Or.inr ⟨k.1, by omega, k.2.2⟩))))
          · skip
            refine w_aload_n (pc' := 75) (i := 0) (by rfl) (by rfl) dX6_findFits_74 rfl ?_
            refine w_getS (pc' := 78) (q := 41) fg_X6_57 kd_112 sf_X6_2 gr_112_2 dX6_findFits_75 rfl ?_
            refine w_iload (pc' := 80) (by rfl) dX6_findFits_78 rfl ?_
            refine w_iload_n (pc' := 81) (i := 2) (by rfl) (by rfl) dX6_findFits_80 rfl ?_
            refine v_callVE (pc' := 84) (st' := [gI (TOLD σ0 g t)]) (d' := 1) (av := [gI g, gI t]) mi_mX2_toldOn lk_X6_114 rfl ci_X2 kd_41 rfl (Nat.le_of_ble_eq_true rfl) (Nat.le_of_ble_eq_true rfl) dX6_findFits_81 rfl rfl (hmP (F := fun z => gI (TOLD z g t)) (hqv.1) (fun _ => rfl) (g_toldOn σv (hm_FA (hqv.1) hI.1).1.hz g t (gr_n (hqv.1) ⟨by omega, by omega⟩))) ?_
            refine w_iconst (pc' := 85) (by decide) dX6_findFits_84 rfl ?_
            refine w_icmp_eq (pc' := 88) (t := 215) dX6_findFits_85 rfl rfl (fun c_85 => ?_) (fun c_85 => ?_)
            · skip
              refine v_iinc (pc' := 218) (x := g) (ls' := [gR 112, gI e, gI t, gI (HD (AR σ0 (σ0 115 e) t) (σ0 113 e)), gI (g + 1), gI ((σ0 45 g) - (σ0 115 e))]) (by (first | omega | (have := hrow (by omega); omega))) (by decide) (by rfl) (by rfl) dX6_findFits_215 rfl ?_
              refine w_goto (pc' := 24) dX6_findFits_218 rfl ?_
              refine Wp.lose (ls' := [gR 112, gI e, gI t, gI (HD (AR σ0 (σ0 115 e) t) (σ0 113 e)), gI (g + 1), gX 1]) ⟨.inr rfl, ⟨.inr rfl, ⟨.inr rfl, ⟨.inr rfl, ⟨.inr rfl, ⟨.inl rfl, trivial⟩⟩⟩⟩⟩⟩ ?_
              have qb : QC σ0 (σv) := hqv
              exact ih_24 _ (by omega) (g + 1) σv rfl (by omega) (by omega) (by exact qb) (by first | exact hkv | (intro k a b; exact (hk_184 k a).trans (hkv k a b)) | (intro k a b; exact (if_neg b).trans ((hk_184 k a).trans (hkv k a b)))) (by intro i z a b z0 z1; first | (have w := hft i z a b z0 z1; rw [w]; refine or_congr_right ⟨fun k => ⟨k.1, by omega, k.2.2⟩, fun k => ⟨k.1, ?_, k.2.2⟩⟩; by_cases c : z = g; (exfalso; rw [c] at k; obtain ⟨k1, k2, k3⟩ := k; omega); omega) | (rw [e118]; have w := hft i z a b z0 z1; rw [w]; refine or_congr_right ⟨fun k => ⟨k.1, by omega, k.2.2⟩, fun k => ⟨k.1, ?_, k.2.2⟩⟩; by_cases c : z = g; (exfalso; rw [c] at k; obtain ⟨k1, k2, k3⟩ := k; omega); omega) | (have w := hft i z a b z0 z1; have s := fBt_set (R := σv 118) (e := e) (g := g) g0 (by omega) z0 z1 (e' := i); rw [gUp_own, e118]; refine Iff.trans s ?_; rw [w]; constructor; (rintro ((k | k) | k); exact Or.inl k; exact Or.inr ⟨k.1, by omega, k.2.2⟩; exact Or.inr ⟨k.1, by omega, by rw [k.2]; exact hfit⟩); (rintro (k | k); exact Or.inl (Or.inl k); by_cases c : z = g; exact Or.inr ⟨k.1, c⟩; exact Or.inl (Or.inr ⟨k.1, by omega, k.2.2⟩))))
            · skip
              refine w_iload (pc' := 90) (by rfl) dX6_findFits_88 rfl ?_
              refine w_bipush (pc' := 92) (by decide) (by decide) dX6_findFits_90 rfl ?_
              refine w_icmp_lt (pc' := 95) (t := 215) dX6_findFits_92 rfl rfl (fun c_92 => ?_) (fun c_92 => ?_)
              · skip
                refine v_iinc (pc' := 218) (x := g) (ls' := [gR 112, gI e, gI t, gI (HD (AR σ0 (σ0 115 e) t) (σ0 113 e)), gI (g + 1), gI ((σ0 45 g) - (σ0 115 e))]) (by (first | omega | (have := hrow (by omega); omega))) (by decide) (by rfl) (by rfl) dX6_findFits_215 rfl ?_
                refine w_goto (pc' := 24) dX6_findFits_218 rfl ?_
                refine Wp.lose (ls' := [gR 112, gI e, gI t, gI (HD (AR σ0 (σ0 115 e) t) (σ0 113 e)), gI (g + 1), gX 1]) ⟨.inr rfl, ⟨.inr rfl, ⟨.inr rfl, ⟨.inr rfl, ⟨.inr rfl, ⟨.inl rfl, trivial⟩⟩⟩⟩⟩⟩ ?_
                have qb : QC σ0 (σv) := hqv
                exact ih_24 _ (by omega) (g + 1) σv rfl (by omega) (by omega) (by exact qb) (by first | exact hkv | (intro k a b; exact (hk_184 k a).trans (hkv k a b)) | (intro k a b; exact (if_neg b).trans ((hk_184 k a).trans (hkv k a b)))) (by intro i z a b z0 z1; first | (have w := hft i z a b z0 z1; rw [w]; refine or_congr_right ⟨fun k => ⟨k.1, by omega, k.2.2⟩, fun k => ⟨k.1, ?_, k.2.2⟩⟩; by_cases c : z = g; (exfalso; rw [c] at k; obtain ⟨k1, k2, k3⟩ := k; omega); omega) | (rw [e118]; have w := hft i z a b z0 z1; rw [w]; refine or_congr_right ⟨fun k => ⟨k.1, by omega, k.2.2⟩, fun k => ⟨k.1, ?_, k.2.2⟩⟩; by_cases c : z = g; (exfalso; rw [c] at k; obtain ⟨k1, k2, k3⟩ := k; omega); omega) | (have w := hft i z a b z0 z1; have s := fBt_set (R := σv 118) (e := e) (g := g) g0 (by omega) z0 z1 (e' := i); rw [gUp_own, e118]; refine Iff.trans s ?_; rw [w]; constructor; (rintro ((k | k) | k); exact Or.inl k; exact Or.inr ⟨k.1, by omega, k.2.2⟩; exact Or.inr ⟨k.1, by omega, by rw [k.2]; exact hfit⟩); (rintro (k | k); exact Or.inl (Or.inl k); by_cases c : z = g; exact Or.inr ⟨k.1, c⟩; exact Or.inl (Or.inr ⟨k.1, by omega, k.2.2⟩))))
              · skip
                refine w_iload (pc' := 97) (by rfl) dX6_findFits_95 rfl ?_
                refine w_iconst (pc' := 98) (by decide) dX6_findFits_97 rfl ?_
                refine w_icmp_gt (pc' := 101) (t := 215) dX6_findFits_98 rfl rfl (fun c_98 => ?_) (fun c_98 => ?_)
                · skip
                  refine v_iinc (pc' := 218) (x := g) (ls' := [gR 112, gI e, gI t, gI (HD (AR σ0 (σ0 115 e) t) (σ0 113 e)), gI (g + 1), gI ((σ0 45 g) - (σ0 115 e))]) (by (first | omega | (have := hrow (by omega); omega))) (by decide) (by rfl) (by rfl) dX6_findFits_215 rfl ?_
                  refine w_goto (pc' := 24) dX6_findFits_218 rfl ?_
                  refine Wp.lose (ls' := [gR 112, gI e, gI t, gI (HD (AR σ0 (σ0 115 e) t) (σ0 113 e)), gI (g + 1), gX 1]) ⟨.inr rfl, ⟨.inr rfl, ⟨.inr rfl, ⟨.inr rfl, ⟨.inr rfl, ⟨.inl rfl, trivial⟩⟩⟩⟩⟩⟩ ?_
                  have qb : QC σ0 (σv) := hqv
                  exact ih_24 _ (by omega) (g + 1) σv rfl (by omega) (by omega) (by exact qb) (by first | exact hkv | (intro k a b; exact (hk_184 k a).trans (hkv k a b)) | (intro k a b; exact (if_neg b).trans ((hk_184 k a).trans (hkv k a b)))) (by intro i z a b z0 z1; first | (have w := hft i z a b z0 z1; rw [w]; refine or_congr_right ⟨fun k => ⟨k.1, by omega, k.2.2⟩, fun k => ⟨k.1, ?_, k.2.2⟩⟩; by_cases c : z = g; (exfalso; rw [c] at k; obtain ⟨k1, k2, k3⟩ := k; omega); omega) | (rw [e118]; have w := hft i z a b z0 z1; rw [w]; refine or_congr_right ⟨fun k => ⟨k.1, by omega, k.2.2⟩, fun k => ⟨k.1, ?_, k.2.2⟩⟩; by_cases c : z = g; (exfalso; rw [c] at k; obtain ⟨k1, k2, k3⟩ := k; omega); omega) | (have w := hft i z a b z0 z1; have s := fBt_set (R := σv 118) (e := e) (g := g) g0 (by omega) z0 z1 (e' := i); rw [gUp_own, e118]; refine Iff.trans s ?_; rw [w]; constructor; (rintro ((k | k) | k); exact Or.inl k; exact Or.inr ⟨k.1, by omega, k.2.2⟩; exact Or.inr ⟨k.1, by omega, by rw [k.2]; exact hfit⟩); (rintro (k | k); exact Or.inl (Or.inl k); by_cases c : z = g; exact Or.inr ⟨k.1, c⟩; exact Or.inl (Or.inr ⟨k.1, by omega, k.2.2⟩))))
                · skip
                  refine w_aload_n (pc' := 102) (i := 0) (by rfl) (by rfl) dX6_findFits_101 rfl ?_
                  refine w_getS (pc' := 105) (q := 41) fg_X6_57 kd_112 sf_X6_2 gr_112_2 dX6_findFits_102 rfl ?_
                  refine w_iload (pc' := 107) (by rfl) dX6_findFits_105 rfl ?_
                  refine w_iload_n (pc' := 108) (i := 2) (by rfl) (by rfl) dX6_findFits_107 rfl ?_
                  refine v_callVE (pc' := 111) (st' := [gI (LEAST σ0 g t)]) (d' := 2) (av := [gI g, gI t]) mi_mX2_leastOf lk_X6_118 rfl ci_X2 kd_41 rfl (Nat.le_of_ble_eq_true rfl) (Nat.le_of_ble_eq_true rfl) dX6_findFits_108 rfl rfl (hmP (F := fun z => gI (LEAST z g t)) (hqv.1) (fun _ => rfl) (g_leastOf σv (hm_FA (hqv.1) hI.1).1.hz g t (gr_n (hqv.1) ⟨by omega, by omega⟩))) ?_
                  refine w_aload_n (pc' := 112) (i := 0) (by rfl) (by rfl) dX6_findFits_111 rfl ?_
                  refine w_getS (pc' := 115) (q := 116) fg_X6_22 kd_112 sf_X6_6 gr_112_6 dX6_findFits_112 rfl ?_
                  refine w_iload_n (pc' := 116) (i := 1) (by rfl) (by rfl) dX6_findFits_115 rfl ?_
                  refine w_iald (pc' := 117) kd_116 (by (first | omega | (have := hrow (by omega); omega))) (by (first | omega | (have := hrow (by omega); omega))) dX6_findFits_116 rfl ?_
                  rw [(hqv).rd (k := 116) (i := e) (.inr rfl)]
                  refine w_icmp_gt (pc' := 120) (t := 215) dX6_findFits_117 rfl rfl (fun c_117 => ?_) (fun c_117 => ?_)
                  · skip
                    refine v_iinc (pc' := 218) (x := g) (ls' := [gR 112, gI e, gI t, gI (HD (AR σ0 (σ0 115 e) t) (σ0 113 e)), gI (g + 1), gI ((σ0 45 g) - (σ0 115 e))]) (by (first | omega | (have := hrow (by omega); omega))) (by decide) (by rfl) (by rfl) dX6_findFits_215 rfl ?_
                    refine w_goto (pc' := 24) dX6_findFits_218 rfl ?_
                    refine Wp.lose (ls' := [gR 112, gI e, gI t, gI (HD (AR σ0 (σ0 115 e) t) (σ0 113 e)), gI (g + 1), gX 1]) ⟨.inr rfl, ⟨.inr rfl, ⟨.inr rfl, ⟨.inr rfl, ⟨.inr rfl, ⟨.inl rfl, trivial⟩⟩⟩⟩⟩⟩ ?_
                    have qb : QC σ0 (σv) := hqv
                    exact ih_24 _ (by omega) (g + 1) σv rfl (by omega) (by omega) (by exact qb) (by first | exact hkv | (intro k a b; exact (hk_184 k a).trans (hkv k a b)) | (intro k a b; exact (if_neg b).trans ((hk_184 k a).trans (hkv k a b)))) (by intro i z a b z0 z1; first | (have w := hft i z a b z0 z1; rw [w]; refine or_congr_right ⟨fun k => ⟨k.1, by omega, k.2.2⟩, fun k => ⟨k.1, ?_, k.2.2⟩⟩; by_cases c : z = g; (exfalso; rw [c] at k; obtain ⟨k1, k2, k3⟩ := k; omega); omega) | (rw [e118]; have w := hft i z a b z0 z1; rw [w]; refine or_congr_right ⟨fun k => ⟨k.1, by omega, k.2.2⟩, fun k => ⟨k.1, ?_, k.2.2⟩⟩; by_cases c : z = g; (exfalso; rw [c] at k; obtain ⟨k1, k2, k3⟩ := k; omega); omega) | (have w := hft i z a b z0 z1; have s := fBt_set (R := σv 118) (e := e) (g := g) g0 (by omega) z0 z1 (e' := i); rw [gUp_own, e118]; refine Iff.trans s ?_; rw [w]; constructor; (rintro ((k | k) | k); exact Or.inl k; exact Or.inr ⟨k.1, by omega, k.2.2⟩; exact Or.inr ⟨k.1, by omega, by rw [k.2]; exact hfit⟩); (rintro (k | k); exact Or.inl (Or.inl k); by_cases c : z = g; exact Or.inr ⟨k.1, c⟩; exact Or.inl (Or.inr ⟨k.1, by omega, k.2.2⟩))))
                  · skip
                    refine w_aload_n (pc' := 121) (i := 0) (by rfl) (by rfl) dX6_findFits_120 rfl ?_
                    refine w_getS (pc' := 124) (q := 116) fg_X6_22 kd_112 sf_X6_6 gr_112_6 dX6_findFits_121 rfl ?_
                    refine w_iload_n (pc' := 125) (i := 1) (by rfl) (by rfl) dX6_findFits_124 rfl ?_
                    refine w_iald (pc' := 126) kd_116 (by (first | omega | (have := hrow (by omega); omega))) (by (first | omega | (have := hrow (by omega); omega))) dX6_findFits_125 rfl ?_
                    rw [(hqv).rd (k := 116) (i := e) (.inr rfl)]
                    refine w_aload_n (pc' := 127) (i := 0) (by rfl) (by rfl) dX6_findFits_126 rfl ?_
                    refine w_getS (pc' := 130) (q := 41) fg_X6_57 kd_112 sf_X6_2 gr_112_2 dX6_findFits_127 rfl ?_
                    refine w_iload (pc' := 132) (by rfl) dX6_findFits_130 rfl ?_
                    refine w_iload_n (pc' := 133) (i := 2) (by rfl) (by rfl) dX6_findFits_132 rfl ?_
                    refine v_callVE (pc' := 136) (st' := [gI (MOST σ0 g t), gI (σ0 116 e)]) (d' := 2) (av := [gI g, gI t]) mi_mX2_mostOf lk_X6_121 rfl ci_X2 kd_41 rfl (Nat.le_of_ble_eq_true rfl) (Nat.le_of_ble_eq_true rfl) dX6_findFits_133 rfl rfl (hmP (F := fun z => gI (MOST z g t)) (hqv.1) (fun _ => rfl) (g_mostOf σv (hm_FA (hqv.1) hI.1).1.hz g t (gr_n (hqv.1) ⟨by omega, by omega⟩))) ?_
                    refine w_icmp_gt (pc' := 139) (t := 215) dX6_findFits_136 rfl rfl (fun c_136 => ?_) (fun c_136 => ?_)
                    · skip
                      refine v_iinc (pc' := 218) (x := g) (ls' := [gR 112, gI e, gI t, gI (HD (AR σ0 (σ0 115 e) t) (σ0 113 e)), gI (g + 1), gI ((σ0 45 g) - (σ0 115 e))]) (by (first | omega | (have := hrow (by omega); omega))) (by decide) (by rfl) (by rfl) dX6_findFits_215 rfl ?_
                      refine w_goto (pc' := 24) dX6_findFits_218 rfl ?_
                      refine Wp.lose (ls' := [gR 112, gI e, gI t, gI (HD (AR σ0 (σ0 115 e) t) (σ0 113 e)), gI (g + 1), gX 1]) ⟨.inr rfl, ⟨.inr rfl, ⟨.inr rfl, ⟨.inr rfl, ⟨.inr rfl, ⟨.inl rfl, trivial⟩⟩⟩⟩⟩⟩ ?_
                      have qb : QC σ0 (σv) := hqv
                      exact ih_24 _ (by omega) (g + 1) σv rfl (by omega) (by omega) (by exact qb) (by first | exact hkv | (intro k a b; exact (hk_184 k a).trans (hkv k a b)) | (intro k a b; exact (if_neg b).trans ((hk_184 k a).trans (hkv k a b)))) (by intro i z a b z0 z1; first | (have w := hft i z a b z0 z1; rw [w]; refine or_congr_right ⟨fun k => ⟨k.1, by omega, k.2.2⟩, fun k => ⟨k.1, ?_, k.2.2⟩⟩; by_cases c : z = g; (exfalso; rw [c] at k; obtain ⟨k1, k2, k3⟩ := k; omega); omega) | (rw [e118]; have w := hft i z a b z0 z1; rw [w]; refine or_congr_right ⟨fun k => ⟨k.1, by omega, k.2.2⟩, fun k => ⟨k.1, ?_, k.2.2⟩⟩; by_cases c : z = g; (exfalso; rw [c] at k; obtain ⟨k1, k2, k3⟩ := k; omega); omega) | (have w := hft i z a b z0 z1; have s := fBt_set (R := σv 118) (e := e) (g := g) g0 (by omega) z0 z1 (e' := i); rw [gUp_own, e118]; refine Iff.trans s ?_; rw [w]; constructor; (rintro ((k | k) | k); exact Or.inl k; exact Or.inr ⟨k.1, by omega, k.2.2⟩; exact Or.inr ⟨k.1, by omega, by rw [k.2]; exact hfit⟩); (rintro (k | k); exact Or.inl (Or.inl k); by_cases c : z = g; exact Or.inr ⟨k.1, c⟩; exact Or.inl (Or.inr ⟨k.1, by omega, k.2.2⟩))))
                    · skip
                      refine w_aload_n (pc' := 140) (i := 0) (by rfl) (by rfl) dX6_findFits_139 rfl ?_
                      refine w_getS (pc' := 143) (q := 3) fg_X6_49 kd_112 sf_X6_0 gr_112_0 dX6_findFits_140 rfl ?_
                      refine w_aload_n (pc' := 144) (i := 0) (by rfl) (by rfl) dX6_findFits_143 rfl ?_
                      refine w_getS (pc' := 147) (q := 41) fg_X6_57 kd_112 sf_X6_2 gr_112_2 dX6_findFits_144 rfl ?_
                      refine w_iload (pc' := 149) (by rfl) dX6_findFits_147 rfl ?_
                      refine v_callVE (pc' := 152) (st' := [gI (σ0 43 g), gR 3]) (d' := 1) (av := [gI g]) mi_mX2_receiver lk_X6_124 rfl ci_X2 kd_41 rfl (Nat.le_of_ble_eq_true rfl) (Nat.le_of_ble_eq_true rfl) dX6_findFits_149 rfl rfl (hmP (F := fun z => gI (z 43 g)) (hqv.1) (fun _ => rfl) (gi_receiver σv (hm_FA (hqv.1) hI.1).1.hz g (gr_n (hqv.1) ⟨by omega, by omega⟩))) ?_
                      refine w_aload_n (pc' := 153) (i := 0) (by rfl) (by rfl) dX6_findFits_152 rfl ?_
                      refine w_getS (pc' := 156) (q := 114) fg_X6_15 kd_112 sf_X6_4 gr_112_4 dX6_findFits_153 rfl ?_
                      refine w_iload_n (pc' := 157) (i := 1) (by rfl) (by rfl) dX6_findFits_156 rfl ?_
                      refine w_lald (pc' := 158) kd_114 (by (first | omega | (have := hrow (by omega); omega))) (by (first | omega | (have := hrow (by omega); omega))) dX6_findFits_157 rfl ?_
                      rw [(hqv).rd (k := 114) (i := e) (.inr rfl)]
                      refine v_callVE (pc' := 161) (st' := [gI (gb ((0 ≤ (σ0 43 g) ∧ (σ0 43 g) < σ0 3 2) ∧ σ0 5 (σ0 43 g) = (σ0 114 e)))]) (d' := 1) (av := [gI (σ0 43 g), gJ (σ0 114 e)]) mi_mX8_isNamed lk_X6_127 rfl ci_X8 kd_3 rfl (Nat.le_of_ble_eq_true rfl) (Nat.le_of_ble_eq_true rfl) dX6_findFits_158 rfl rfl (kj_isNamed hI hqv (σ0 43 g) (σ0 114 e)) ?_
                      refine v_if_eqB (pc' := 164) (t := 215) dX6_findFits_161 rfl rfl (fun c_161 => ?_) (fun c_161 => ?_)
                      · skip
                        refine v_iinc (pc' := 218) (x := g) (ls' := [gR 112, gI e, gI t, gI (HD (AR σ0 (σ0 115 e) t) (σ0 113 e)), gI (g + 1), gI ((σ0 45 g) - (σ0 115 e))]) (by (first | omega | (have := hrow (by omega); omega))) (by decide) (by rfl) (by rfl) dX6_findFits_215 rfl ?_
                        refine w_goto (pc' := 24) dX6_findFits_218 rfl ?_
                        refine Wp.lose (ls' := [gR 112, gI e, gI t, gI (HD (AR σ0 (σ0 115 e) t) (σ0 113 e)), gI (g + 1), gX 1]) ⟨.inr rfl, ⟨.inr rfl, ⟨.inr rfl, ⟨.inr rfl, ⟨.inr rfl, ⟨.inl rfl, trivial⟩⟩⟩⟩⟩⟩ ?_
                        have qb : QC σ0 (σv) := hqv
                        exact ih_24 _ (by omega) (g + 1) σv rfl (by omega) (by omega) (by exact qb) (by first | exact hkv | (intro k a b; exact (hk_184 k a).trans (hkv k a b)) | (intro k a b; exact (if_neg b).trans ((hk_184 k a).trans (hkv k a b)))) (by intro i z a b z0 z1; first | (have w := hft i z a b z0 z1; rw [w]; refine or_congr_right ⟨fun k => ⟨k.1, by omega, k.2.2⟩, fun k => ⟨k.1, ?_, k.2.2⟩⟩; by_cases c : z = g; (exfalso; rw [c] at k; obtain ⟨k1, k2, k3⟩ := k; omega); omega) | (rw [e118]; have w := hft i z a b z0 z1; rw [w]; refine or_congr_right ⟨fun k => ⟨k.1, by omega, k.2.2⟩, fun k => ⟨k.1, ?_, k.2.2⟩⟩; by_cases c : z = g; (exfalso; rw [c] at k; obtain ⟨k1, k2, k3⟩ := k; omega); omega) | (have w := hft i z a b z0 z1; have s := fBt_set (R := σv 118) (e := e) (g := g) g0 (by omega) z0 z1 (e' := i); rw [gUp_own, e118]; refine Iff.trans s ?_; rw [w]; constructor; (rintro ((k | k) | k); exact Or.inl k; exact Or.inr ⟨k.1, by omega, k.2.2⟩; exact Or.inr ⟨k.1, by omega, by rw [k.2]; exact hfit⟩); (rintro (k | k); exact Or.inl (Or.inl k); by_cases c : z = g; exact Or.inr ⟨k.1, c⟩; exact Or.inl (Or.inr ⟨k.1, by omega, k.2.2⟩))))
                      · skip
                        refine w_aload_n (pc' := 165) (i := 0) (by rfl) (by rfl) dX6_findFits_164 rfl ?_
                        refine w_getS (pc' := 168) (q := 14) fg_X6_53 kd_112 sf_X6_1 gr_112_1 dX6_findFits_165 rfl ?_
                        refine w_aload_n (pc' := 169) (i := 0) (by rfl) (by rfl) dX6_findFits_168 rfl ?_
                        refine w_getS (pc' := 172) (q := 41) fg_X6_57 kd_112 sf_X6_2 gr_112_2 dX6_findFits_169 rfl ?_
                        refine w_iload (pc' := 174) (by rfl) dX6_findFits_172 rfl ?_
                        refine v_callVE (pc' := 177) (st' := [gI (σ0 42 g), gR 14]) (d' := 1) (av := [gI g]) mi_mX2_giver lk_X6_131 rfl ci_X2 kd_41 rfl (Nat.le_of_ble_eq_true rfl) (Nat.le_of_ble_eq_true rfl) dX6_findFits_174 rfl rfl (hmP (F := fun z => gI (z 42 g)) (hqv.1) (fun _ => rfl) (gi_giver σv (hm_FA (hqv.1) hI.1).1.hz g (gr_n (hqv.1) ⟨by omega, by omega⟩))) ?_
                        refine w_aload_n (pc' := 178) (i := 0) (by rfl) (by rfl) dX6_findFits_177 rfl ?_
                        refine w_getS (pc' := 181) (q := 115) fg_X6_19 kd_112 sf_X6_5 gr_112_5 dX6_findFits_178 rfl ?_
                        refine w_iload_n (pc' := 182) (i := 1) (by rfl) (by rfl) dX6_findFits_181 rfl ?_
                        refine w_iald (pc' := 183) kd_115 (by (first | omega | (have := hrow (by omega); omega))) (by (first | omega | (have := hrow (by omega); omega))) dX6_findFits_182 rfl ?_
                        rw [(hqv).rd (k := 115) (i := e) (.inr rfl)]
                        refine w_iload_n (pc' := 184) (i := 2) (by rfl) (by rfl) dX6_findFits_183 rfl ?_
                        refine w_callV (pc' := 187) (d' := 3) (av := [gI (σ0 42 g), gI (σ0 115 e), gI t]) mi_mX7_headOf lk_X6_94 rfl ci_X7 kd_14 rfl (Nat.le_of_ble_eq_true rfl) (Nat.le_of_ble_eq_true rfl) dX6_findFits_184 rfl (k_headOf hI hqv (σ0 42 g) (σ0 115 e) t (by (first | omega | (have := hrow (by omega); omega)))) (fun v_184 σ184 q_184 => ?_)
                        obtain ⟨rfl, hq_184, hk_184⟩ := q_184
                        show Wp _ _ _ _ _ _ [gI (HD (AR σ0 (σ0 115 e) t) (σ0 42 g))]
                        refine w_iload_n (pc' := 188) (i := 3) (by rfl) (by rfl) dX6_findFits_187 rfl ?_
                        refine w_icmp_ne (pc' := 191) (t := 215) dX6_findFits_188 rfl rfl (fun c_188 => ?_) (fun c_188 => ?_)
                        · skip
                          refine v_iinc (pc' := 218) (x := g) (ls' := [gR 112, gI e, gI t, gI (HD (AR σ0 (σ0 115 e) t) (σ0 113 e)), gI (g + 1), gI ((σ0 45 g) - (σ0 115 e))]) (by (first | omega | (have := hrow (by omega); omega))) (by decide) (by rfl) (by rfl) dX6_findFits_215 rfl ?_
                          refine w_goto (pc' := 24) dX6_findFits_218 rfl ?_
                          refine Wp.lose (ls' := [gR 112, gI e, gI t, gI (HD (AR σ0 (σ0 115 e) t) (σ0 113 e)), gI (g + 1), gX 1]) ⟨.inr rfl, ⟨.inr rfl, ⟨.inr rfl, ⟨.inr rfl, ⟨.inr rfl, ⟨.inl rfl, trivial⟩⟩⟩⟩⟩⟩ ?_
                          have qb : QC σ0 (σ184) := hq_184
                          have e118 : σ184 118 = σv 118 := hk_184 118 (by decide)
                          exact ih_24 _ (by omega) (g + 1) σ184 rfl (by omega) (by omega) (by exact qb) (by first | exact hkv | (intro k a b; exact (hk_184 k a).trans (hkv k a b)) | (intro k a b; exact (if_neg b).trans ((hk_184 k a).trans (hkv k a b)))) (by intro i z a b z0 z1; first | (have w := hft i z a b z0 z1; rw [w]; refine or_congr_right ⟨fun k => ⟨k.1, by omega, k.2.2⟩, fun k => ⟨k.1, ?_, k.2.2⟩⟩; by_cases c : z = g; (exfalso; rw [c] at k; obtain ⟨k1, k2, k3⟩ := k; omega); omega) | (rw [e118]; have w := hft i z a b z0 z1; rw [w]; refine or_congr_right ⟨fun k => ⟨k.1, by omega, k.2.2⟩, fun k => ⟨k.1, ?_, k.2.2⟩⟩; by_cases c : z = g; (exfalso; rw [c] at k; obtain ⟨k1, k2, k3⟩ := k; omega); omega) | (have w := hft i z a b z0 z1; have s := fBt_set (R := σv 118) (e := e) (g := g) g0 (by omega) z0 z1 (e' := i); rw [gUp_own, e118]; refine Iff.trans s ?_; rw [w]; constructor; (rintro ((k | k) | k); exact Or.inl k; exact Or.inr ⟨k.1, by omega, k.2.2⟩; exact Or.inr ⟨k.1, by omega, by rw [k.2]; exact hfit⟩); (rintro (k | k); exact Or.inl (Or.inl k); by_cases c : z = g; exact Or.inr ⟨k.1, c⟩; exact Or.inl (Or.inr ⟨k.1, by omega, k.2.2⟩))))
                        · skip
                          have hfit : fitP σ0 t e g := by omega
                          refine w_aload_n (pc' := 192) (i := 0) (by rfl) (by rfl) dX6_findFits_191 rfl ?_
                          refine w_getS (pc' := 195) (q := 118) fg_X6_28 kd_112 sf_X6_9 gr_112_9 dX6_findFits_192 rfl ?_
                          refine w_iload_n (pc' := 196) (i := 1) (by rfl) (by rfl) dX6_findFits_195 rfl ?_
                          refine w_iconst (pc' := 197) (by decide) dX6_findFits_196 rfl ?_
                          refine v_imul (pc' := 198) (by (first | omega | (have := hrow (by omega); omega))) dX6_findFits_197 rfl ?_
                          refine w_iload (pc' := 200) (by rfl) dX6_findFits_198 rfl ?_
                          refine w_bipush (pc' := 202) (by decide) (by decide) dX6_findFits_200 rfl ?_
                          refine w_idiv (pc' := 203) (by (first | omega | (have := hrow (by omega); omega))) dX6_findFits_202 rfl ?_
                          refine v_iadd (pc' := 204) (by have := hm (by omega); omega) dX6_findFits_203 rfl ?_
                          refine w_dup2 (pc' := 205) dX6_findFits_204 rfl ?_
                          refine w_lald (pc' := 206) kd_118 (by have := hm (by omega); omega) (by have := hm (by omega); omega) dX6_findFits_205 rfl ?_
                          rw [(hk_184).rd (k := 118) (i := (e * 2) + (w32 (g.tdiv 64))) (by decide)]
                          refine w_lconst (n := 1) (pc' := 207) (by decide) (by decide) dX6_findFits_206 rfl ?_
                          refine w_iload (pc' := 209) (by rfl) dX6_findFits_207 rfl ?_
                          refine w_bipush (pc' := 211) (by decide) (by decide) dX6_findFits_209 rfl ?_
                          refine w_irem (pc' := 212) (by (first | omega | (have := hrow (by omega); omega))) dX6_findFits_211 rfl ?_
                          refine w_lshl (pc' := 213) dX6_findFits_212 rfl ?_
                          refine w_lor (pc' := 214) dX6_findFits_213 rfl ?_
                          refine w_last (pc' := 215) kd_118 (by have := hm (by omega); omega) (by have := hm (by omega); omega) dX6_findFits_214 rfl ?_
                          refine v_iinc (pc' := 218) (x := g) (ls' := [gR 112, gI e, gI t, gI (HD (AR σ0 (σ0 115 e) t) (σ0 113 e)), gI (g + 1), gI ((σ0 45 g) - (σ0 115 e))]) (by (first | omega | (have := hrow (by omega); omega))) (by decide) (by rfl) (by rfl) dX6_findFits_215 rfl ?_
                          refine w_goto (pc' := 24) dX6_findFits_218 rfl ?_
                          refine Wp.lose (ls' := [gR 112, gI e, gI t, gI (HD (AR σ0 (σ0 115 e) t) (σ0 113 e)), gI (g + 1), gX 1]) ⟨.inr rfl, ⟨.inr rfl, ⟨.inr rfl, ⟨.inr rfl, ⟨.inr rfl, ⟨.inl rfl, trivial⟩⟩⟩⟩⟩⟩ ?_
                          have qb : QC σ0 (gUp σ184 118 ((e * 2) + (w32 (g.tdiv 64))) (gB64 (fun a b => a ||| b) (σv 118 ((e * 2) + (w32 (g.tdiv 64)))) (gS64 (fun a b => a <<< b) 1 (w32 (g.tmod 64))))) := (QC.up (k := 118) (i := ((e * 2) + (w32 (g.tdiv 64)))) (v := (gB64 (fun a b => a ||| b) (σv 118 ((e * 2) + (w32 (g.tdiv 64)))) (gS64 (fun a b => a <<< b) 1 (w32 (g.tmod 64))))) hq_184 (hm_nfC 118 (by decide) _) (fun h => h))
                          have e118 : σ184 118 = σv 118 := hk_184 118 (by decide)
                          exact ih_24 _ (by omega) (g + 1) (gUp σ184 118 ((e * 2) + (w32 (g.tdiv 64))) (gB64 (fun a b => a ||| b) (σv 118 ((e * 2) + (w32 (g.tdiv 64)))) (gS64 (fun a b => a <<< b) 1 (w32 (g.tmod 64))))) rfl (by omega) (by omega) (by exact qb) (by first | exact hkv | (intro k a b; exact (hk_184 k a).trans (hkv k a b)) | (intro k a b; exact (if_neg b).trans ((hk_184 k a).trans (hkv k a b)))) (by intro i z a b z0 z1; first | (have w := hft i z a b z0 z1; rw [w]; refine or_congr_right ⟨fun k => ⟨k.1, by omega, k.2.2⟩, fun k => ⟨k.1, ?_, k.2.2⟩⟩; by_cases c : z = g; (exfalso; rw [c] at k; obtain ⟨k1, k2, k3⟩ := k; omega); omega) | (rw [e118]; have w := hft i z a b z0 z1; rw [w]; refine or_congr_right ⟨fun k => ⟨k.1, by omega, k.2.2⟩, fun k => ⟨k.1, ?_, k.2.2⟩⟩; by_cases c : z = g; (exfalso; rw [c] at k; obtain ⟨k1, k2, k3⟩ := k; omega); omega) | (have w := hft i z a b z0 z1; have s := fBt_set (R := σv 118) (e := e) (g := g) g0 (by omega) z0 z1 (e' := i); rw [gUp_own, e118]; refine Iff.trans s ?_; rw [w]; constructor; (rintro ((k | k) | k); exact Or.inl k; exact Or.inr ⟨k.1, by omega, k.2.2⟩; exact Or.inr ⟨k.1, by omega, by rw [k.2]; exact hfit⟩); (rintro (k | k); exact Or.inl (Or.inl k); by_cases c : z = g; exact Or.inr ⟨k.1, c⟩; exact Or.inl (Or.inr ⟨k.1, by omega, k.2.2⟩))))
  exact hl_24 _ 0 σ17 rfl (by omega) (by omega) (by exact hq_17) (by intro k a _; exact hk_17 k a) (by intro i z a b z0 z1; rw [show σ17 118 = σ 118 from hk_17 118 (by decide)]; exact ⟨Or.inl, fun k => k.resolve_right (fun w => by omega)⟩)
