/-! votes behind gifts (gen/mod_warm.py) -/
abbrev waP (σ : gH) (p f d t j : Int) : Prop := σ 49 j ≤ t ∧ σ 43 j = p ∧ σ 45 j ≤ d ∧ d - NU σ (LI σ d t) 3 < σ 45 j ∧ HD (AR σ d t) (σ 42 j) = HD (AR σ d t) f ∧ ¬ (BACK σ j t ≠ -1 ∧ BACK σ j t ≤ d - 1)
noncomputable def WARM (σ : gH) (p f d t : Int) : Int := anyI (fun j => waP σ p f d t j) (σ 41 11)
noncomputable def vW (σ : gH) (t i : Int) : Int := WARM σ (σ 130 i) (σ 127 (σ 129 i)) (σ 128 (σ 129 i)) t
abbrev tlP (σ : gH) (t w i : Int) : Prop := σ 132 i ≤ t ∧ (w = 0 ∨ w = 2 ∨ σ 131 i ≠ 0) ∧ (w < 2 ∨ vW σ t i ≠ 0)
noncomputable def TLn (σ : gH) (t w : Int) (n : Nat) : Int := sumI (fun i => if tlP σ t w i then 1 else 0) n
noncomputable def TL (σ : gH) (t w : Int) : Int := TLn σ t w (σ 125 10).toNat
theorem TL_t {σ : gH} {t w i : Int} (h0 : 0 ≤ i) (h : tlP σ t w i) : TLn σ t w (i + 1).toNat = TLn σ t w i.toNat + 1 := by
  unfold TLn
  rw [sumI_s h0, if_pos h]
theorem TL_f {σ : gH} {t w i : Int} (h0 : 0 ≤ i) (h : ¬ tlP σ t w i) : TLn σ t w (i + 1).toNat = TLn σ t w i.toNat := by
  unfold TLn
  rw [sumI_s h0, if_neg h, Int.add_zero]
theorem TL_in (σ : gH) (t w : Int) (n : Nat) : 0 ≤ TLn σ t w n ∧ TLn σ t w n ≤ n := by
  constructor
  · exact sumI_nonneg fun i a b => by split <;> omega
  · have h : TLn σ t w n ≤ sumI (fun _ => 1) n := sumI_le fun i a b => by split <;> omega
    rw [sumI_const] at h
    omega
theorem vote_row {σ : gH} (hI : Inv σ) {i : Int} (h0 : 0 ≤ i) (h1 : i < σ 125 10) : (0 ≤ σ 129 i ∧ σ 129 i < σ 125 5 ∧ σ 125 5 ≤ 60) ∧ (0 ≤ σ 130 i ∧ σ 130 i < σ 3 2) ∧ (σ 131 i = 0 ∨ σ 131 i = 1) ∧ (0 ≤ σ 127 (σ 129 i) ∧ σ 127 (σ 129 i) < σ 3 2) ∧ 0 ≤ σ 128 (σ 129 i) ∧ σ 128 (σ 129 i) ≤ 9999 := by
  have k := (hI.f.vote.2.2.2 i h0 h1).2.2.2.2
  have m := (hI.f.mat.2.2.2 (σ 129 i) k.1 k.2.1).2.2
  have m60 := hI.f.mat.2.2.1
  have k3 := k.2.2.1
  unfold isPe isP at k3
  unfold isP isDy at m
  exact ⟨⟨k.1, k.2.1, m60⟩, k3.1, k.2.2.2.1, m.1, m.2.1, m.2.2⟩
theorem mat_row {σ : gH} (hI : Inv σ) {m : Int} (h0 : 0 ≤ m) (h1 : m < σ 125 5) : (0 ≤ σ 127 m ∧ σ 127 m < σ 3 2) ∧ 0 ≤ σ 128 m ∧ σ 128 m ≤ 9999 := by
  have m := (hI.f.mat.2.2.2 m h0 h1).2.2
  unfold isP isDy at m
  exact m
theorem LI_num {σ : gH} (hI : Inv σ) (d t : Int) : 1 ≤ NU σ (LI σ d t) 3 ∧ NU σ (LI σ d t) 3 ≤ 999 := (LI_law hI d t).num.2.2.2.1.2
set_option maxHeartbeats 4000000 in
theorem k_isWarm {σ0 σ : gH} (hI : Inv σ0) (hq : QC σ0 σ) (p f d t : Int) (hF : 0 ≤ f ∧ f < σ0 3 2) (hD : 0 ≤ d ∧ d ≤ 9999) : Mt mX3_isWarm 4 [gR 110, gI p, gI f, gI d, gI t] σ (fun v σ' => v = gI (WARM σ0 p f d t) ∧ QC σ0 σ' ∧ Kp 34 σ σ') := by
  refine Mt.walk (ls := [gR 110, gI p, gI f, gI d, gI t, gX 1, gX 1, gX 1, gX 1]) pn_X3 rfl (fun _ _ h => by cases h.1) (Nat.le_of_ble_eq_true rfl) rfl ?_
  have hz0 := hI.f.hz
  have hp60 := hI.f.hp
  have hln := LI_num hI d t
  refine w_aload_n (pc' := 1) (i := 0) (by rfl) (by rfl) dX3_isWarm_0 rfl ?_
  refine w_getS (pc' := 4) (q := 57) fg_X3_35 kd_110 sf_X3_5 gr_110_5 dX3_isWarm_1 rfl ?_
  refine w_iload_n (pc' := 5) (i := 3) (by rfl) (by rfl) dX3_isWarm_4 rfl ?_
  refine w_iload (pc' := 7) (by rfl) dX3_isWarm_5 rfl ?_
  refine w_callV (pc' := 10) (d' := 1) (av := [gI d, gI t]) mi_mX5_inForce lk_X3_80 rfl ci_X5 kd_57 rfl (Nat.le_of_ble_eq_true rfl) (Nat.le_of_ble_eq_true rfl) dX3_isWarm_7 rfl (k_inForce hI hq d t) (fun v_7 σ q_7 => ?_)
  obtain ⟨c, rfl, rfl, hL, hc⟩ := q_7
  show Wp _ _ _ _ _ _ [gR c]
  refine v_callVE (pc' := 13) (st' := [gI (NU σ0 (LI σ0 d t) 3)]) (d' := 0) (av := []) mi_mX4_link lk_X3_187 rfl ci_X4 hL.is.1.1 rfl (Nat.le_of_ble_eq_true rfl) (Nat.le_of_ble_eq_true rfl) dX3_isWarm_10 rfl rfl (k_linkL hL (hq.1)) ?_
  refine w_istore (pc' := 15) (ls' := [gR 110, gI p, gI f, gI d, gI t, gI (NU σ0 (LI σ0 d t) 3), gX 1, gX 1, gX 1]) (by decide) (by rfl) dX3_isWarm_13 rfl ?_
  refine w_aload_n (pc' := 16) (i := 0) (by rfl) (by rfl) dX3_isWarm_15 rfl ?_
  refine w_getS (pc' := 19) (q := 14) fg_X3_19 kd_110 sf_X3_1 gr_110_1 dX3_isWarm_16 rfl ?_
  refine w_iload_n (pc' := 20) (i := 2) (by rfl) (by rfl) dX3_isWarm_19 rfl ?_
  refine w_iload_n (pc' := 21) (i := 3) (by rfl) (by rfl) dX3_isWarm_20 rfl ?_
  refine w_iload (pc' := 23) (by rfl) dX3_isWarm_21 rfl ?_
  refine w_callV (pc' := 26) (d' := 3) (av := [gI f, gI d, gI t]) mi_mX7_headOf lk_X3_134 rfl ci_X7 kd_14 rfl (Nat.le_of_ble_eq_true rfl) (Nat.le_of_ble_eq_true rfl) dX3_isWarm_23 rfl (k_headOf hI hq f d t (by (first | omega | (have := hrow (by omega); omega)))) (fun v_23 σ23 q_23 => ?_)
  obtain ⟨rfl, hq_23, hk_23⟩ := q_23
  show Wp _ _ _ _ _ _ [gI (HD (AR σ0 d t) f)]
  refine w_istore (pc' := 28) (ls' := [gR 110, gI p, gI f, gI d, gI t, gI (NU σ0 (LI σ0 d t) 3), gI (HD (AR σ0 d t) f), gX 1, gX 1]) (by decide) (by rfl) dX3_isWarm_26 rfl ?_
  refine w_iconst (pc' := 29) (by decide) dX3_isWarm_28 rfl ?_
  refine w_istore (pc' := 31) (ls' := [gR 110, gI p, gI f, gI d, gI t, gI (NU σ0 (LI σ0 d t) 3), gI (HD (AR σ0 d t) f), gI 0, gX 1]) (by decide) (by rfl) dX3_isWarm_29 rfl ?_
  have hl_31 : ∀ (mm : Nat) (j : Int) (σv : gH), (σ0 41 11 - j).toNat = mm → (0 ≤ j) → (j ≤ σ0 41 11) → (∀ i, 0 ≤ i → i < j → ¬ waP σ0 p f d t i) → (QC σ0 σv) → (Kp 34 σ σv) → Wp mX3_isWarm 4 (fun v σ' => v = gI (WARM σ0 p f d t) ∧ QC σ0 σ' ∧ Kp 34 σ σ') σv 31 [gR 110, gI p, gI f, gI d, gI t, gI (NU σ0 (LI σ0 d t) 3), gI (HD (AR σ0 d t) f), gI j, gX 1] [] := by
    intro m_31
    induction m_31 using Nat.strongRecOn with
    | _ m_31 ih_31 =>
      intro j σv hmeas_31 h0 h1 hz hqv hkv
      have hrow := fun h : j < σ0 41 11 => gift_row hI h0 h
      refine w_iload (pc' := 33) (by rfl) dX3_isWarm_31 rfl ?_
      refine w_aload_n (pc' := 34) (i := 0) (by rfl) (by rfl) dX3_isWarm_33 rfl ?_
      refine w_getS (pc' := 37) (q := 41) fg_X3_31 kd_110 sf_X3_4 gr_110_4 dX3_isWarm_34 rfl ?_
      refine v_callVE (pc' := 40) (st' := [gI (σ0 41 11), gI j]) (d' := 0) (av := []) mi_mX2_total lk_X3_54 rfl ci_X2 kd_41 rfl (Nat.le_of_ble_eq_true rfl) (Nat.le_of_ble_eq_true rfl) dX3_isWarm_37 rfl rfl (hmP (F := fun z => gI (z 41 11)) (hqv.1) (fun _ => rfl) (g_total σv (hm_FA (hqv.1) hI.1).1.hz)) ?_
      refine w_icmp_ge (pc' := 43) (t := 145) dX3_isWarm_40 rfl rfl (fun c_40 => ?_) (fun c_40 => ?_)
      · skip
        refine w_iconst (pc' := 146) (by decide) dX3_isWarm_145 rfl ?_
        refine w_zreturn rfl (.inl rfl) dX3_isWarm_146 ?_
        exact ⟨congrArg gI (anyI_0 (fun i a b => hz i a (by omega))).symm, hqv, hkv⟩
      · skip
        refine w_aload_n (pc' := 44) (i := 0) (by rfl) (by rfl) dX3_isWarm_43 rfl ?_
        refine w_getS (pc' := 47) (q := 41) fg_X3_31 kd_110 sf_X3_4 gr_110_4 dX3_isWarm_44 rfl ?_
        refine w_iload (pc' := 49) (by rfl) dX3_isWarm_47 rfl ?_
        refine v_callVE (pc' := 52) (st' := [gI (σ0 45 j)]) (d' := 1) (av := [gI j]) mi_mX2_dayOf lk_X3_74 rfl ci_X2 kd_41 rfl (Nat.le_of_ble_eq_true rfl) (Nat.le_of_ble_eq_true rfl) dX3_isWarm_49 rfl rfl (hmP (F := fun z => gI (z 45 j)) (hqv.1) (fun _ => rfl) (gi_dayOf σv (hm_FA (hqv.1) hI.1).1.hz j (gr_n (hqv.1) ⟨by omega, by omega⟩))) ?_
        refine w_istore (pc' := 54) (ls' := [gR 110, gI p, gI f, gI d, gI t, gI (NU σ0 (LI σ0 d t) 3), gI (HD (AR σ0 d t) f), gI j, gI (σ0 45 j)]) (by decide) (by rfl) dX3_isWarm_52 rfl ?_
        refine w_aload_n (pc' := 55) (i := 0) (by rfl) (by rfl) dX3_isWarm_54 rfl ?_
        refine w_getS (pc' := 58) (q := 41) fg_X3_31 kd_110 sf_X3_4 gr_110_4 dX3_isWarm_55 rfl ?_
        refine w_iload (pc' := 60) (by rfl) dX3_isWarm_58 rfl ?_
        refine w_iload (pc' := 62) (by rfl) dX3_isWarm_60 rfl ?_
        refine v_callVE (pc' := 65) (st' := [gI (gb ((0 ≤ j ∧ j < σ0 41 11) ∧ σ0 49 j ≤ t))]) (d' := 1) (av := [gI j, gI t]) mi_mX2_isKnown lk_X3_60 rfl ci_X2 kd_41 rfl (Nat.le_of_ble_eq_true rfl) (Nat.le_of_ble_eq_true rfl) dX3_isWarm_62 rfl rfl (hmP (F := fun z => gI (gb ((0 ≤ j ∧ j < z 41 11) ∧ z 49 j ≤ t))) (hqv.1) (fun _ => rfl) (g_isKnown σv (hm_FA (hqv.1) hI.1).1.hz j t)) ?_
        refine v_if_eqB (pc' := 68) (t := 139) dX3_isWarm_65 rfl rfl (fun c_65 => ?_) (fun c_65 => ?_)
        · skip
          refine v_iinc (pc' := 142) (x := j) (ls' := [gR 110, gI p, gI f, gI d, gI t, gI (NU σ0 (LI σ0 d t) 3), gI (HD (AR σ0 d t) f), gI (j + 1), gI (σ0 45 j)]) (by (first | omega | (have := hrow (by omega); omega))) (by decide) (by rfl) (by rfl) dX3_isWarm_139 rfl ?_
          refine w_goto (pc' := 31) dX3_isWarm_142 rfl ?_
          refine Wp.lose (ls' := [gR 110, gI p, gI f, gI d, gI t, gI (NU σ0 (LI σ0 d t) 3), gI (HD (AR σ0 d t) f), gI (j + 1), gX 1]) ⟨.inr rfl, ⟨.inr rfl, ⟨.inr rfl, ⟨.inr rfl, ⟨.inr rfl, ⟨.inr rfl, ⟨.inr rfl, ⟨.inr rfl, ⟨.inl rfl, trivial⟩⟩⟩⟩⟩⟩⟩⟩⟩ ?_
          exact ih_31 _ (by omega) (j + 1) σv rfl (by omega) (by omega) (by intro i a b; by_cases e : i = j; (rw [e]; exact (show ¬ _ by omega)); exact hz i a (by omega)) (by first | exact hqv | exact hq_112) (by first | exact hkv | exact hkv.trans hk_112)
        · skip
          refine w_aload_n (pc' := 69) (i := 0) (by rfl) (by rfl) dX3_isWarm_68 rfl ?_
          refine w_getS (pc' := 72) (q := 41) fg_X3_31 kd_110 sf_X3_4 gr_110_4 dX3_isWarm_69 rfl ?_
          refine w_iload (pc' := 74) (by rfl) dX3_isWarm_72 rfl ?_
          refine v_callVE (pc' := 77) (st' := [gI (σ0 43 j)]) (d' := 1) (av := [gI j]) mi_mX2_receiver lk_X3_64 rfl ci_X2 kd_41 rfl (Nat.le_of_ble_eq_true rfl) (Nat.le_of_ble_eq_true rfl) dX3_isWarm_74 rfl rfl (hmP (F := fun z => gI (z 43 j)) (hqv.1) (fun _ => rfl) (gi_receiver σv (hm_FA (hqv.1) hI.1).1.hz j (gr_n (hqv.1) ⟨by omega, by omega⟩))) ?_
          refine w_iload_n (pc' := 78) (i := 1) (by rfl) (by rfl) dX3_isWarm_77 rfl ?_
          refine w_icmp_ne (pc' := 81) (t := 139) dX3_isWarm_78 rfl rfl (fun c_78 => ?_) (fun c_78 => ?_)
          · skip
            refine v_iinc (pc' := 142) (x := j) (ls' := [gR 110, gI p, gI f, gI d, gI t, gI (NU σ0 (LI σ0 d t) 3), gI (HD (AR σ0 d t) f), gI (j + 1), gI (σ0 45 j)]) (by (first | omega | (have := hrow (by omega); omega))) (by decide) (by rfl) (by rfl) dX3_isWarm_139 rfl ?_
            refine w_goto (pc' := 31) dX3_isWarm_142 rfl ?_
            refine Wp.lose (ls' := [gR 110, gI p, gI f, gI d, gI t, gI (NU σ0 (LI σ0 d t) 3), gI (HD (AR σ0 d t) f), gI (j + 1), gX 1]) ⟨.inr rfl, ⟨.inr rfl, ⟨.inr rfl, ⟨.inr rfl, ⟨.inr rfl, ⟨.inr rfl, ⟨.inr rfl, ⟨.inr rfl, ⟨.inl rfl, trivial⟩⟩⟩⟩⟩⟩⟩⟩⟩ ?_
            exact ih_31 _ (by omega) (j + 1) σv rfl (by omega) (by omega) (by intro i a b; by_cases e : i = j; (rw [e]; exact (show ¬ _ by omega)); exact hz i a (by omega)) (by first | exact hqv | exact hq_112) (by first | exact hkv | exact hkv.trans hk_112)
          · skip
            refine w_iload (pc' := 83) (by rfl) dX3_isWarm_81 rfl ?_
            refine w_iload_n (pc' := 84) (i := 3) (by rfl) (by rfl) dX3_isWarm_83 rfl ?_
            refine w_icmp_gt (pc' := 87) (t := 139) dX3_isWarm_84 rfl rfl (fun c_84 => ?_) (fun c_84 => ?_)
            · skip
              refine v_iinc (pc' := 142) (x := j) (ls' := [gR 110, gI p, gI f, gI d, gI t, gI (NU σ0 (LI σ0 d t) 3), gI (HD (AR σ0 d t) f), gI (j + 1), gI (σ0 45 j)]) (by (first | omega | (have := hrow (by omega); omega))) (by decide) (by rfl) (by rfl) dX3_isWarm_139 rfl ?_
              refine w_goto (pc' := 31) dX3_isWarm_142 rfl ?_
              refine Wp.lose (ls' := [gR 110, gI p, gI f, gI d, gI t, gI (NU σ0 (LI σ0 d t) 3), gI (HD (AR σ0 d t) f), gI (j + 1), gX 1]) ⟨.inr rfl, ⟨.inr rfl, ⟨.inr rfl, ⟨.inr rfl, ⟨.inr rfl, ⟨.inr rfl, ⟨.inr rfl, ⟨.inr rfl, ⟨.inl rfl, trivial⟩⟩⟩⟩⟩⟩⟩⟩⟩ ?_
              exact ih_31 _ (by omega) (j + 1) σv rfl (by omega) (by omega) (by intro i a b; by_cases e : i = j; (rw [e]; exact (show ¬ _ by omega)); exact hz i a (by omega)) (by first | exact hqv | exact hq_112) (by first | exact hkv | exact hkv.trans hk_112)
            · skip
              refine w_iload (pc' := 89) (by rfl) dX3_isWarm_87 rfl ?_
              refine w_iload_n (pc' := 90) (i := 3) (by rfl) (by rfl) dX3_isWarm_89 rfl ?_
              refine w_iload (pc' := 92) (by rfl) dX3_isWarm_90 rfl ?_
              refine v_isub (pc' := 93) (by (first | omega | (have := hrow (by omega); omega))) dX3_isWarm_92 rfl ?_
              refine w_icmp_le (pc' := 96) (t := 139) dX3_isWarm_93 rfl rfl (fun c_93 => ?_) (fun c_93 => ?_)
              · skip
                refine v_iinc (pc' := 142) (x := j) (ls' := [gR 110, gI p, gI f, gI d, gI t, gI (NU σ0 (LI σ0 d t) 3), gI (HD (AR σ0 d t) f), gI (j + 1), gI (σ0 45 j)]) (by (first | omega | (have := hrow (by omega); omega))) (by decide) (by rfl) (by rfl) dX3_isWarm_139 rfl ?_
                refine w_goto (pc' := 31) dX3_isWarm_142 rfl ?_
                refine Wp.lose (ls' := [gR 110, gI p, gI f, gI d, gI t, gI (NU σ0 (LI σ0 d t) 3), gI (HD (AR σ0 d t) f), gI (j + 1), gX 1]) ⟨.inr rfl, ⟨.inr rfl, ⟨.inr rfl, ⟨.inr rfl, ⟨.inr rfl, ⟨.inr rfl, ⟨.inr rfl, ⟨.inr rfl, ⟨.inl rfl, trivial⟩⟩⟩⟩⟩⟩⟩⟩⟩ ?_
                exact ih_31 _ (by omega) (j + 1) σv rfl (by omega) (by omega) (by intro i a b; by_cases e : i = j; (rw [e]; exact (show ¬ _ by omega)); exact hz i a (by omega)) (by first | exact hqv | exact hq_112) (by first | exact hkv | exact hkv.trans hk_112)
              · skip
                refine w_aload_n (pc' := 97) (i := 0) (by rfl) (by rfl) dX3_isWarm_96 rfl ?_
                refine w_getS (pc' := 100) (q := 14) fg_X3_19 kd_110 sf_X3_1 gr_110_1 dX3_isWarm_97 rfl ?_
                refine w_aload_n (pc' := 101) (i := 0) (by rfl) (by rfl) dX3_isWarm_100 rfl ?_
                refine w_getS (pc' := 104) (q := 41) fg_X3_31 kd_110 sf_X3_4 gr_110_4 dX3_isWarm_101 rfl ?_
                refine w_iload (pc' := 106) (by rfl) dX3_isWarm_104 rfl ?_
                refine v_callVE (pc' := 109) (st' := [gI (σ0 42 j), gR 14]) (d' := 1) (av := [gI j]) mi_mX2_giver lk_X3_77 rfl ci_X2 kd_41 rfl (Nat.le_of_ble_eq_true rfl) (Nat.le_of_ble_eq_true rfl) dX3_isWarm_106 rfl rfl (hmP (F := fun z => gI (z 42 j)) (hqv.1) (fun _ => rfl) (gi_giver σv (hm_FA (hqv.1) hI.1).1.hz j (gr_n (hqv.1) ⟨by omega, by omega⟩))) ?_
                refine w_iload_n (pc' := 110) (i := 3) (by rfl) (by rfl) dX3_isWarm_109 rfl ?_
                refine w_iload (pc' := 112) (by rfl) dX3_isWarm_110 rfl ?_
                refine w_callV (pc' := 115) (d' := 3) (av := [gI (σ0 42 j), gI d, gI t]) mi_mX7_headOf lk_X3_134 rfl ci_X7 kd_14 rfl (Nat.le_of_ble_eq_true rfl) (Nat.le_of_ble_eq_true rfl) dX3_isWarm_112 rfl (k_headOf hI hqv (σ0 42 j) d t (by (first | omega | (have := hrow (by omega); omega)))) (fun v_112 σ112 q_112 => ?_)
                obtain ⟨rfl, hq_112, hk_112⟩ := q_112
                show Wp _ _ _ _ _ _ [gI (HD (AR σ0 d t) (σ0 42 j))]
                refine w_iload (pc' := 117) (by rfl) dX3_isWarm_115 rfl ?_
                refine w_icmp_ne (pc' := 120) (t := 139) dX3_isWarm_117 rfl rfl (fun c_117 => ?_) (fun c_117 => ?_)
                · skip
                  refine v_iinc (pc' := 142) (x := j) (ls' := [gR 110, gI p, gI f, gI d, gI t, gI (NU σ0 (LI σ0 d t) 3), gI (HD (AR σ0 d t) f), gI (j + 1), gI (σ0 45 j)]) (by (first | omega | (have := hrow (by omega); omega))) (by decide) (by rfl) (by rfl) dX3_isWarm_139 rfl ?_
                  refine w_goto (pc' := 31) dX3_isWarm_142 rfl ?_
                  refine Wp.lose (ls' := [gR 110, gI p, gI f, gI d, gI t, gI (NU σ0 (LI σ0 d t) 3), gI (HD (AR σ0 d t) f), gI (j + 1), gX 1]) ⟨.inr rfl, ⟨.inr rfl, ⟨.inr rfl, ⟨.inr rfl, ⟨.inr rfl, ⟨.inr rfl, ⟨.inr rfl, ⟨.inr rfl, ⟨.inl rfl, trivial⟩⟩⟩⟩⟩⟩⟩⟩⟩ ?_
                  exact ih_31 _ (by omega) (j + 1) σ112 rfl (by omega) (by omega) (by intro i a b; by_cases e : i = j; (rw [e]; exact (show ¬ _ by omega)); exact hz i a (by omega)) (by first | exact hqv | exact hq_112) (by first | exact hkv | exact hkv.trans hk_112)
                · skip
                  refine w_aload_n (pc' := 121) (i := 0) (by rfl) (by rfl) dX3_isWarm_120 rfl ?_
                  refine w_getS (pc' := 124) (q := 41) fg_X3_31 kd_110 sf_X3_4 gr_110_4 dX3_isWarm_121 rfl ?_
                  refine w_iload (pc' := 126) (by rfl) dX3_isWarm_124 rfl ?_
                  refine w_iload_n (pc' := 127) (i := 3) (by rfl) (by rfl) dX3_isWarm_126 rfl ?_
                  refine w_iconst (pc' := 128) (by decide) dX3_isWarm_127 rfl ?_
                  refine v_isub (pc' := 129) (by (first | omega | (have := hrow (by omega); omega))) dX3_isWarm_128 rfl ?_
                  refine w_iload (pc' := 131) (by rfl) dX3_isWarm_129 rfl ?_
                  refine v_callVE (pc' := 134) (st' := [gI (gb (BACK σ0 j t ≠ -1 ∧ BACK σ0 j t ≤ (d - 1)))]) (d' := 2) (av := [gI j, gI (d - 1), gI t]) mi_mX2_isBackBy lk_X3_126 rfl ci_X2 kd_41 rfl (Nat.le_of_ble_eq_true rfl) (Nat.le_of_ble_eq_true rfl) dX3_isWarm_131 rfl rfl (hmP (F := fun z => gI (gb (BACK z j t ≠ -1 ∧ BACK z j t ≤ (d - 1)))) (hq_112.1) (fun _ => rfl) (g_isBackBy σ112 (hm_FA (hq_112.1) hI.1).1.hz j (d - 1) t (gr_n (hq_112.1) ⟨by omega, by omega⟩))) ?_
                  refine v_if_neB (pc' := 137) (t := 139) dX3_isWarm_134 rfl rfl (fun c_134 => ?_) (fun c_134 => ?_)
                  · skip
                    refine v_iinc (pc' := 142) (x := j) (ls' := [gR 110, gI p, gI f, gI d, gI t, gI (NU σ0 (LI σ0 d t) 3), gI (HD (AR σ0 d t) f), gI (j + 1), gI (σ0 45 j)]) (by (first | omega | (have := hrow (by omega); omega))) (by decide) (by rfl) (by rfl) dX3_isWarm_139 rfl ?_
                    refine w_goto (pc' := 31) dX3_isWarm_142 rfl ?_
                    refine Wp.lose (ls' := [gR 110, gI p, gI f, gI d, gI t, gI (NU σ0 (LI σ0 d t) 3), gI (HD (AR σ0 d t) f), gI (j + 1), gX 1]) ⟨.inr rfl, ⟨.inr rfl, ⟨.inr rfl, ⟨.inr rfl, ⟨.inr rfl, ⟨.inr rfl, ⟨.inr rfl, ⟨.inr rfl, ⟨.inl rfl, trivial⟩⟩⟩⟩⟩⟩⟩⟩⟩ ?_
                    exact ih_31 _ (by omega) (j + 1) σ112 rfl (by omega) (by omega) (by intro i a b; by_cases e : i = j; (rw [e]; exact (show ¬ _ by omega)); exact hz i a (by omega)) (by first | exact hqv | exact hq_112) (by first | exact hkv | exact hkv.trans hk_112)
                  · skip
                    refine w_iconst (pc' := 138) (by decide) dX3_isWarm_137 rfl ?_
                    refine w_zreturn rfl (.inr rfl) dX3_isWarm_138 ?_
                    exact ⟨congrArg gI (anyI_1 h0 (by omega) (show _ ∧ _ ∧ _ ∧ _ ∧ _ ∧ _ by omega)).symm, hq_112, hkv.trans hk_112⟩
  exact hl_31 _ 0 σ23 rfl (by omega) (by omega) (by intro i a b; omega) (by exact hq_23) (by exact hk_23)
set_option maxHeartbeats 4000000 in
theorem q_isWarm {σ0 σ : gH} (hI : Inv σ0) (hq : QM σ0 σ) (k t : Int) (hk : 0 ≤ k ∧ k < σ0 125 10) : Mt mX12_isWarm 3 [gR 133, gI k, gI t] σ (fun v σ' => v = gI (vW σ0 t k) ∧ QM σ0 σ' ∧ KW σ σ') := by
  refine Mt.walk (ls := [gR 133, gI k, gI t, gX 1, gX 1, gX 1, gX 1]) pn_X12 rfl (fun _ _ h => by cases h.1) (Nat.le_of_ble_eq_true rfl) rfl ?_
  have hz0 := hI.f.hz
  have hp60 := hI.f.hp
  have hv200 := hI.f.vote.2.2.1
  have hvr := vote_row hI hk.1 hk.2
  have hli := LI_in hI (σ0 128 (σ0 129 k)) t
  have hln := LI_num hI (σ0 128 (σ0 129 k)) t
  refine w_aload_n (pc' := 1) (i := 0) (by rfl) (by rfl) dX12_isWarm_0 rfl ?_
  refine w_getS (pc' := 4) (q := 191) fg_X12_193 kd_133 sf_X12_91 gr_133_91 dX12_isWarm_1 rfl ?_
  refine w_aload_n (pc' := 5) (i := 0) (by rfl) (by rfl) dX12_isWarm_4 rfl ?_
  refine w_getS (pc' := 8) (q := 203) fg_X12_229 kd_133 sf_X12_106 gr_133_106 dX12_isWarm_5 rfl ?_
  refine w_iload_n (pc' := 9) (i := 1) (by rfl) (by rfl) dX12_isWarm_8 rfl ?_
  refine w_iald (pc' := 10) kd_203 (by (first | omega | (have := hrow (by omega); omega))) (by (first | omega | (have := hrow (by omega); omega))) dX12_isWarm_9 rfl ?_
  rw [(hq).rd (k := 203) (i := k) (.inr rfl)]
  rw [hI.e203 (i := k) (by (first | omega | (have := hrow (by omega); omega))) (by (first | omega | (have := hrow (by omega); omega)))]
  refine w_iald (pc' := 11) kd_191 (by (first | omega | (have := hrow (by omega); omega))) (by (first | omega | (have := hrow (by omega); omega))) dX12_isWarm_10 rfl ?_
  rw [(hq).rd (k := 191) (i := σ0 129 k) (.inr rfl)]
  rw [hI.e191 (i := σ0 129 k) (by (first | omega | (have := hrow (by omega); omega))) (by (first | omega | (have := hrow (by omega); omega)))]
  refine w_istore_n (pc' := 12) (i := 3) (ls' := [gR 133, gI k, gI t, gI (σ0 128 (σ0 129 k)), gX 1, gX 1, gX 1]) (by rfl) (by decide) (by rfl) dX12_isWarm_11 rfl ?_
  refine w_iload_n (pc' := 13) (i := 3) (by rfl) (by rfl) dX12_isWarm_12 rfl ?_
  refine w_aload_n (pc' := 14) (i := 0) (by rfl) (by rfl) dX12_isWarm_13 rfl ?_
  refine w_aload_n (pc' := 15) (i := 0) (by rfl) (by rfl) dX12_isWarm_14 rfl ?_
  refine w_iload_n (pc' := 16) (i := 3) (by rfl) (by rfl) dX12_isWarm_15 rfl ?_
  refine w_iload_n (pc' := 17) (i := 2) (by rfl) (by rfl) dX12_isWarm_16 rfl ?_
  refine v_callVE (pc' := 20) (st' := [gI (LI σ0 (σ0 128 (σ0 129 k)) t), gR 133, gI (σ0 128 (σ0 129 k))]) (d' := 0) (av := [gI (σ0 128 (σ0 129 k)), gI t]) mi_mX12_lawFor lk_X12_512 rfl ci_X12 kd_133 rfl (Nat.le_of_ble_eq_true rfl) (Nat.le_of_ble_eq_true rfl) dX12_isWarm_17 rfl rfl (q_lawFor hI hq (σ0 128 (σ0 129 k)) t) ?_
  refine w_iconst (pc' := 21) (by decide) dX12_isWarm_20 rfl ?_
  refine v_callVE (pc' := 24) (st' := [gI (NU σ0 (LI σ0 (σ0 128 (σ0 129 k)) t) 3), gI (σ0 128 (σ0 129 k))]) (d' := 0) (av := [gI (LI σ0 (σ0 128 (σ0 129 k)) t), gI 3]) mi_mX12_numberOf lk_X12_503 rfl ci_X12 kd_133 rfl (Nat.le_of_ble_eq_true rfl) (Nat.le_of_ble_eq_true rfl) dX12_isWarm_21 rfl rfl (q_numberOf hI hq.1 (LI σ0 (σ0 128 (σ0 129 k)) t) 3 (by omega) (by omega)) ?_
  refine v_isub (pc' := 25) (by (first | omega | (have := hrow (by omega); omega))) dX12_isWarm_24 rfl ?_
  refine w_istore (pc' := 27) (ls' := [gR 133, gI k, gI t, gI (σ0 128 (σ0 129 k)), gI ((σ0 128 (σ0 129 k)) - (NU σ0 (LI σ0 (σ0 128 (σ0 129 k)) t) 3)), gX 1, gX 1]) (by decide) (by rfl) dX12_isWarm_25 rfl ?_
  refine w_aload_n (pc' := 28) (i := 0) (by rfl) (by rfl) dX12_isWarm_27 rfl ?_
  refine w_iload_n (pc' := 29) (i := 3) (by rfl) (by rfl) dX12_isWarm_28 rfl ?_
  refine w_iload_n (pc' := 30) (i := 2) (by rfl) (by rfl) dX12_isWarm_29 rfl ?_
  refine w_callV (pc' := 33) (d' := 2) (av := [gI (σ0 128 (σ0 129 k)), gI t]) mi_mX12_work lk_X12_349 rfl ci_X12 kd_133 rfl (Nat.le_of_ble_eq_true rfl) (Nat.le_of_ble_eq_true rfl) dX12_isWarm_30 rfl (q_work hI hq (σ0 128 (σ0 129 k)) t) (fun v_30 σ30 q_30 => ?_)
  obtain ⟨rfl, hq_30, hk_30, hw_30⟩ := q_30
  show Wp _ _ _ _ _ _ []
  refine w_iconst (pc' := 34) (by decide) dX12_isWarm_33 rfl ?_
  refine w_istore (pc' := 36) (ls' := [gR 133, gI k, gI t, gI (σ0 128 (σ0 129 k)), gI ((σ0 128 (σ0 129 k)) - (NU σ0 (LI σ0 (σ0 128 (σ0 129 k)) t) 3)), gI 0, gX 1]) (by decide) (by rfl) dX12_isWarm_34 rfl ?_
  have hl_36 : ∀ (mm : Nat) (j : Int), (σ0 41 11 - j).toNat = mm → (0 ≤ j) → (j ≤ σ0 41 11) → (∀ i, 0 ≤ i → i < j → ¬ waP σ0 (σ0 130 k) (σ0 127 (σ0 129 k)) (σ0 128 (σ0 129 k)) t i) → Wp mX12_isWarm 3 (fun v σ' => v = gI (vW σ0 t k) ∧ QM σ0 σ' ∧ KW σ σ') σ30 36 [gR 133, gI k, gI t, gI (σ0 128 (σ0 129 k)), gI ((σ0 128 (σ0 129 k)) - (NU σ0 (LI σ0 (σ0 128 (σ0 129 k)) t) 3)), gI j, gX 1] [] := by
    intro m_36
    induction m_36 using Nat.strongRecOn with
    | _ m_36 ih_36 =>
      intro j hmeas_36 h0 h1 hz
      have hrow := fun h : j < σ0 41 11 => gift_row hI h0 h
      have hh1 : j < σ0 41 11 → σ30 169 (σ0 42 j) = HD (AR σ0 (σ0 128 (σ0 129 k)) t) (σ0 42 j) := fun h => hw_30.2 _ (hrow h).1.1 (hrow h).1.2
      have hh2 : σ30 169 (σ0 127 (σ0 129 k)) = HD (AR σ0 (σ0 128 (σ0 129 k)) t) (σ0 127 (σ0 129 k)) := hw_30.2 _ hvr.2.2.2.1.1 hvr.2.2.2.1.2
      refine w_iload (pc' := 38) (by rfl) dX12_isWarm_36 rfl ?_
      refine w_aload_n (pc' := 39) (i := 0) (by rfl) (by rfl) dX12_isWarm_38 rfl ?_
      refine v_getI (pc' := 42) (ji := 42) rfl fg_X12_313 kd_133 dX12_isWarm_39 rfl ?_
      rw [(hq_30).rd (k := 133) (i := 42) (.inr rfl)]
      rw [hI.f42]
      refine w_icmp_ge (pc' := 45) (t := 158) dX12_isWarm_42 rfl rfl (fun c_42 => ?_) (fun c_42 => ?_)
      · skip
        refine w_iconst (pc' := 159) (by decide) dX12_isWarm_158 rfl ?_
        refine w_zreturn rfl (.inl rfl) dX12_isWarm_159 ?_
        exact ⟨congrArg gI (anyI_0 (P := fun j => waP σ0 (σ0 130 k) (σ0 127 (σ0 129 k)) (σ0 128 (σ0 129 k)) t j) (fun i a b => hz i a (by omega))).symm, hq_30, hk_30⟩
      · skip
        refine w_aload_n (pc' := 46) (i := 0) (by rfl) (by rfl) dX12_isWarm_45 rfl ?_
        refine w_getS (pc' := 49) (q := 159) fg_X12_90 kd_133 sf_X12_33 gr_133_33 dX12_isWarm_46 rfl ?_
        refine w_iload (pc' := 51) (by rfl) dX12_isWarm_49 rfl ?_
        refine w_iald (pc' := 52) kd_159 (by (first | omega | (have := hrow (by omega); omega))) (by (first | omega | (have := hrow (by omega); omega))) dX12_isWarm_51 rfl ?_
        rw [(hq_30).rd (k := 159) (i := j) (.inr rfl)]
        rw [hI.e159 (i := j) (by (first | omega | (have := hrow (by omega); omega))) (by (first | omega | (have := hrow (by omega); omega)))]
        refine w_iload_n (pc' := 53) (i := 2) (by rfl) (by rfl) dX12_isWarm_52 rfl ?_
        refine w_icmp_gt (pc' := 56) (t := 152) dX12_isWarm_53 rfl rfl (fun c_53 => ?_) (fun c_53 => ?_)
        · skip
          refine v_iinc (pc' := 155) (x := j) (ls' := [gR 133, gI k, gI t, gI (σ0 128 (σ0 129 k)), gI ((σ0 128 (σ0 129 k)) - (NU σ0 (LI σ0 (σ0 128 (σ0 129 k)) t) 3)), gI (j + 1), gX 1]) (by (first | omega | (have := hrow (by omega); omega))) (by decide) (by rfl) (by rfl) dX12_isWarm_152 rfl ?_
          refine w_goto (pc' := 36) dX12_isWarm_155 rfl ?_
          exact ih_36 _ (by omega) (j + 1) rfl (by omega) (by omega) (by intro i a b; by_cases e : i = j; (rw [e]; exact (show ¬ _ by omega)); exact hz i a (by omega))
        · skip
          refine w_aload_n (pc' := 57) (i := 0) (by rfl) (by rfl) dX12_isWarm_56 rfl ?_
          refine w_getS (pc' := 60) (q := 154) fg_X12_75 kd_133 sf_X12_28 gr_133_28 dX12_isWarm_57 rfl ?_
          refine w_iload (pc' := 62) (by rfl) dX12_isWarm_60 rfl ?_
          refine w_iald (pc' := 63) kd_154 (by (first | omega | (have := hrow (by omega); omega))) (by (first | omega | (have := hrow (by omega); omega))) dX12_isWarm_62 rfl ?_
          rw [(hq_30).rd (k := 154) (i := j) (.inr rfl)]
          rw [hI.e154 (i := j) (by (first | omega | (have := hrow (by omega); omega))) (by (first | omega | (have := hrow (by omega); omega)))]
          refine w_aload_n (pc' := 64) (i := 0) (by rfl) (by rfl) dX12_isWarm_63 rfl ?_
          refine w_getS (pc' := 67) (q := 204) fg_X12_232 kd_133 sf_X12_107 gr_133_107 dX12_isWarm_64 rfl ?_
          refine w_iload_n (pc' := 68) (i := 1) (by rfl) (by rfl) dX12_isWarm_67 rfl ?_
          refine w_iald (pc' := 69) kd_204 (by (first | omega | (have := hrow (by omega); omega))) (by (first | omega | (have := hrow (by omega); omega))) dX12_isWarm_68 rfl ?_
          rw [(hq_30).rd (k := 204) (i := k) (.inr rfl)]
          rw [hI.e204 (i := k) (by (first | omega | (have := hrow (by omega); omega))) (by (first | omega | (have := hrow (by omega); omega)))]
          refine w_icmp_ne (pc' := 72) (t := 152) dX12_isWarm_69 rfl rfl (fun c_69 => ?_) (fun c_69 => ?_)
          · skip
            refine v_iinc (pc' := 155) (x := j) (ls' := [gR 133, gI k, gI t, gI (σ0 128 (σ0 129 k)), gI ((σ0 128 (σ0 129 k)) - (NU σ0 (LI σ0 (σ0 128 (σ0 129 k)) t) 3)), gI (j + 1), gX 1]) (by (first | omega | (have := hrow (by omega); omega))) (by decide) (by rfl) (by rfl) dX12_isWarm_152 rfl ?_
            refine w_goto (pc' := 36) dX12_isWarm_155 rfl ?_
            exact ih_36 _ (by omega) (j + 1) rfl (by omega) (by omega) (by intro i a b; by_cases e : i = j; (rw [e]; exact (show ¬ _ by omega)); exact hz i a (by omega))
          · skip
            refine w_aload_n (pc' := 73) (i := 0) (by rfl) (by rfl) dX12_isWarm_72 rfl ?_
            refine w_getS (pc' := 76) (q := 156) fg_X12_81 kd_133 sf_X12_30 gr_133_30 dX12_isWarm_73 rfl ?_
            refine w_iload (pc' := 78) (by rfl) dX12_isWarm_76 rfl ?_
            refine w_iald (pc' := 79) kd_156 (by (first | omega | (have := hrow (by omega); omega))) (by (first | omega | (have := hrow (by omega); omega))) dX12_isWarm_78 rfl ?_
            rw [(hq_30).rd (k := 156) (i := j) (.inr rfl)]
            rw [hI.e156 (i := j) (by (first | omega | (have := hrow (by omega); omega))) (by (first | omega | (have := hrow (by omega); omega)))]
            refine w_iload_n (pc' := 80) (i := 3) (by rfl) (by rfl) dX12_isWarm_79 rfl ?_
            refine w_icmp_gt (pc' := 83) (t := 152) dX12_isWarm_80 rfl rfl (fun c_80 => ?_) (fun c_80 => ?_)
            · skip
              refine v_iinc (pc' := 155) (x := j) (ls' := [gR 133, gI k, gI t, gI (σ0 128 (σ0 129 k)), gI ((σ0 128 (σ0 129 k)) - (NU σ0 (LI σ0 (σ0 128 (σ0 129 k)) t) 3)), gI (j + 1), gX 1]) (by (first | omega | (have := hrow (by omega); omega))) (by decide) (by rfl) (by rfl) dX12_isWarm_152 rfl ?_
              refine w_goto (pc' := 36) dX12_isWarm_155 rfl ?_
              exact ih_36 _ (by omega) (j + 1) rfl (by omega) (by omega) (by intro i a b; by_cases e : i = j; (rw [e]; exact (show ¬ _ by omega)); exact hz i a (by omega))
            · skip
              refine w_aload_n (pc' := 84) (i := 0) (by rfl) (by rfl) dX12_isWarm_83 rfl ?_
              refine w_getS (pc' := 87) (q := 156) fg_X12_81 kd_133 sf_X12_30 gr_133_30 dX12_isWarm_84 rfl ?_
              refine w_iload (pc' := 89) (by rfl) dX12_isWarm_87 rfl ?_
              refine w_iald (pc' := 90) kd_156 (by (first | omega | (have := hrow (by omega); omega))) (by (first | omega | (have := hrow (by omega); omega))) dX12_isWarm_89 rfl ?_
              rw [(hq_30).rd (k := 156) (i := j) (.inr rfl)]
              rw [hI.e156 (i := j) (by (first | omega | (have := hrow (by omega); omega))) (by (first | omega | (have := hrow (by omega); omega)))]
              refine w_iload (pc' := 92) (by rfl) dX12_isWarm_90 rfl ?_
              refine w_icmp_le (pc' := 95) (t := 152) dX12_isWarm_92 rfl rfl (fun c_92 => ?_) (fun c_92 => ?_)
              · skip
                refine v_iinc (pc' := 155) (x := j) (ls' := [gR 133, gI k, gI t, gI (σ0 128 (σ0 129 k)), gI ((σ0 128 (σ0 129 k)) - (NU σ0 (LI σ0 (σ0 128 (σ0 129 k)) t) 3)), gI (j + 1), gX 1]) (by (first | omega | (have := hrow (by omega); omega))) (by decide) (by rfl) (by rfl) dX12_isWarm_152 rfl ?_
                refine w_goto (pc' := 36) dX12_isWarm_155 rfl ?_
                exact ih_36 _ (by omega) (j + 1) rfl (by omega) (by omega) (by intro i a b; by_cases e : i = j; (rw [e]; exact (show ¬ _ by omega)); exact hz i a (by omega))
              · skip
                refine w_aload_n (pc' := 96) (i := 0) (by rfl) (by rfl) dX12_isWarm_95 rfl ?_
                refine w_getS (pc' := 99) (q := 169) fg_X12_121 kd_133 sf_X12_45 gr_133_45 dX12_isWarm_96 rfl ?_
                refine w_aload_n (pc' := 100) (i := 0) (by rfl) (by rfl) dX12_isWarm_99 rfl ?_
                refine w_getS (pc' := 103) (q := 153) fg_X12_72 kd_133 sf_X12_27 gr_133_27 dX12_isWarm_100 rfl ?_
                refine w_iload (pc' := 105) (by rfl) dX12_isWarm_103 rfl ?_
                refine w_iald (pc' := 106) kd_153 (by (first | omega | (have := hrow (by omega); omega))) (by (first | omega | (have := hrow (by omega); omega))) dX12_isWarm_105 rfl ?_
                rw [(hq_30).rd (k := 153) (i := j) (.inr rfl)]
                rw [hI.e153 (i := j) (by (first | omega | (have := hrow (by omega); omega))) (by (first | omega | (have := hrow (by omega); omega)))]
                refine w_iald (pc' := 107) kd_169 (by (first | omega | (have := hrow (by omega); omega))) (by (first | omega | (have := hrow (by omega); omega))) dX12_isWarm_106 rfl ?_
                refine w_aload_n (pc' := 108) (i := 0) (by rfl) (by rfl) dX12_isWarm_107 rfl ?_
                refine w_getS (pc' := 111) (q := 169) fg_X12_121 kd_133 sf_X12_45 gr_133_45 dX12_isWarm_108 rfl ?_
                refine w_aload_n (pc' := 112) (i := 0) (by rfl) (by rfl) dX12_isWarm_111 rfl ?_
                refine w_getS (pc' := 115) (q := 190) fg_X12_190 kd_133 sf_X12_90 gr_133_90 dX12_isWarm_112 rfl ?_
                refine w_aload_n (pc' := 116) (i := 0) (by rfl) (by rfl) dX12_isWarm_115 rfl ?_
                refine w_getS (pc' := 119) (q := 203) fg_X12_229 kd_133 sf_X12_106 gr_133_106 dX12_isWarm_116 rfl ?_
                refine w_iload_n (pc' := 120) (i := 1) (by rfl) (by rfl) dX12_isWarm_119 rfl ?_
                refine w_iald (pc' := 121) kd_203 (by (first | omega | (have := hrow (by omega); omega))) (by (first | omega | (have := hrow (by omega); omega))) dX12_isWarm_120 rfl ?_
                rw [(hq_30).rd (k := 203) (i := k) (.inr rfl)]
                rw [hI.e203 (i := k) (by (first | omega | (have := hrow (by omega); omega))) (by (first | omega | (have := hrow (by omega); omega)))]
                refine w_iald (pc' := 122) kd_190 (by (first | omega | (have := hrow (by omega); omega))) (by (first | omega | (have := hrow (by omega); omega))) dX12_isWarm_121 rfl ?_
                rw [(hq_30).rd (k := 190) (i := σ0 129 k) (.inr rfl)]
                rw [hI.e190 (i := σ0 129 k) (by (first | omega | (have := hrow (by omega); omega))) (by (first | omega | (have := hrow (by omega); omega)))]
                refine w_iald (pc' := 123) kd_169 (by (first | omega | (have := hrow (by omega); omega))) (by (first | omega | (have := hrow (by omega); omega))) dX12_isWarm_122 rfl ?_
                refine w_icmp_eq (pc' := 126) (t := 129) dX12_isWarm_123 rfl rfl (fun c_123 => ?_) (fun c_123 => ?_)
                · skip
                  refine w_aload_n (pc' := 130) (i := 0) (by rfl) (by rfl) dX12_isWarm_129 rfl ?_
                  refine w_iload (pc' := 132) (by rfl) dX12_isWarm_130 rfl ?_
                  refine w_iload_n (pc' := 133) (i := 2) (by rfl) (by rfl) dX12_isWarm_132 rfl ?_
                  refine v_callVE (pc' := 136) (st' := [gI (BACK σ0 j t)]) (d' := 0) (av := [gI j, gI t]) mi_mX12_backOf lk_X12_506 rfl ci_X12 kd_133 rfl (Nat.le_of_ble_eq_true rfl) (Nat.le_of_ble_eq_true rfl) dX12_isWarm_133 rfl rfl (q_backOf hI hq_30 j t ⟨by omega, by omega⟩) ?_
                  refine w_istore (pc' := 138) (ls' := [gR 133, gI k, gI t, gI (σ0 128 (σ0 129 k)), gI ((σ0 128 (σ0 129 k)) - (NU σ0 (LI σ0 (σ0 128 (σ0 129 k)) t) 3)), gI j, gI (BACK σ0 j t)]) (by decide) (by rfl) dX12_isWarm_136 rfl ?_
                  refine w_iload (pc' := 140) (by rfl) dX12_isWarm_138 rfl ?_
                  refine w_iconst (pc' := 141) (by decide) dX12_isWarm_140 rfl ?_
                  refine w_icmp_eq (pc' := 144) (t := 150) dX12_isWarm_141 rfl rfl (fun c_141 => ?_) (fun c_141 => ?_)
                  · skip
                    refine w_iconst (pc' := 151) (by decide) dX12_isWarm_150 rfl ?_
                    refine w_zreturn rfl (.inr rfl) dX12_isWarm_151 ?_
                    exact ⟨congrArg gI (anyI_1 (P := fun j => waP σ0 (σ0 130 k) (σ0 127 (σ0 129 k)) (σ0 128 (σ0 129 k)) t j) h0 (by omega) (show _ ∧ _ ∧ _ ∧ _ ∧ _ ∧ _ by omega)).symm, hq_30, hk_30⟩
                  · skip
                    refine w_iload (pc' := 146) (by rfl) dX12_isWarm_144 rfl ?_
                    refine w_iload_n (pc' := 147) (i := 3) (by rfl) (by rfl) dX12_isWarm_146 rfl ?_
                    refine w_icmp_lt (pc' := 150) (t := 152) dX12_isWarm_147 rfl rfl (fun c_147 => ?_) (fun c_147 => ?_)
                    · skip
                      refine v_iinc (pc' := 155) (x := j) (ls' := [gR 133, gI k, gI t, gI (σ0 128 (σ0 129 k)), gI ((σ0 128 (σ0 129 k)) - (NU σ0 (LI σ0 (σ0 128 (σ0 129 k)) t) 3)), gI (j + 1), gI (BACK σ0 j t)]) (by (first | omega | (have := hrow (by omega); omega))) (by decide) (by rfl) (by rfl) dX12_isWarm_152 rfl ?_
                      refine w_goto (pc' := 36) dX12_isWarm_155 rfl ?_
                      refine Wp.lose (ls' := [gR 133, gI k, gI t, gI (σ0 128 (σ0 129 k)), gI ((σ0 128 (σ0 129 k)) - (NU σ0 (LI σ0 (σ0 128 (σ0 129 k)) t) 3)), gI (j + 1), gX 1]) ⟨.inr rfl, ⟨.inr rfl, ⟨.inr rfl, ⟨.inr rfl, ⟨.inr rfl, ⟨.inr rfl, ⟨.inl rfl, trivial⟩⟩⟩⟩⟩⟩⟩ ?_
                      exact ih_36 _ (by omega) (j + 1) rfl (by omega) (by omega) (by intro i a b; by_cases e : i = j; (rw [e]; exact (show ¬ _ by omega)); exact hz i a (by omega))
                    · skip
                      refine w_iconst (pc' := 151) (by decide) dX12_isWarm_150 rfl ?_
                      refine w_zreturn rfl (.inr rfl) dX12_isWarm_151 ?_
                      exact ⟨congrArg gI (anyI_1 (P := fun j => waP σ0 (σ0 130 k) (σ0 127 (σ0 129 k)) (σ0 128 (σ0 129 k)) t j) h0 (by omega) (show _ ∧ _ ∧ _ ∧ _ ∧ _ ∧ _ by omega)).symm, hq_30, hk_30⟩
                · skip
                  refine w_goto (pc' := 152) dX12_isWarm_126 rfl ?_
                  refine v_iinc (pc' := 155) (x := j) (ls' := [gR 133, gI k, gI t, gI (σ0 128 (σ0 129 k)), gI ((σ0 128 (σ0 129 k)) - (NU σ0 (LI σ0 (σ0 128 (σ0 129 k)) t) 3)), gI (j + 1), gX 1]) (by (first | omega | (have := hrow (by omega); omega))) (by decide) (by rfl) (by rfl) dX12_isWarm_152 rfl ?_
                  refine w_goto (pc' := 36) dX12_isWarm_155 rfl ?_
                  exact ih_36 _ (by omega) (j + 1) rfl (by omega) (by omega) (by intro i a b; by_cases e : i = j; (rw [e]; exact (show ¬ _ by omega)); exact hz i a (by omega))
  exact hl_36 _ 0 rfl (by omega) (by omega) (by intro i a b; omega)
set_option maxHeartbeats 4000000 in
theorem k_tallyOf {σ0 σ : gH} (hI : Inv σ0) (hq : QC σ0 σ) (t w : Int) (hw : 0 ≤ w ∧ w ≤ 3) : Mt mX1_tallyOf 5 [gR 125, gI t, gI w] σ (fun v σ' => v = gI (TL σ0 t w) ∧ QC σ0 σ' ∧ Kp 34 σ σ') := by
  refine Mt.walk (ls := [gR 125, gI t, gI w, gX 1, gX 1, gX 1, gX 1]) pn_X1 rfl (fun _ _ h => by cases h.1) (Nat.le_of_ble_eq_true rfl) rfl ?_
  have hv0 := hI.f.vote.2.1
  have hv200 := hI.f.vote.2.2.1
  have hp60 := hI.f.hp
  refine w_iconst (pc' := 1) (by decide) dX1_tallyOf_0 rfl ?_
  refine w_istore_n (pc' := 2) (i := 3) (ls' := [gR 125, gI t, gI w, gI 0, gX 1, gX 1, gX 1]) (by rfl) (by decide) (by rfl) dX1_tallyOf_1 rfl ?_
  refine w_iconst (pc' := 3) (by decide) dX1_tallyOf_2 rfl ?_
  refine w_istore (pc' := 5) (ls' := [gR 125, gI t, gI w, gI 0, gI 0, gX 1, gX 1]) (by decide) (by rfl) dX1_tallyOf_3 rfl ?_
  have hl_5 : ∀ (mm : Nat) (i n : Int) (σv : gH), (σ0 125 10 - i).toNat = mm → (0 ≤ i) → (i ≤ σ0 125 10) → (n = TLn σ0 t w i.toNat) → (QC σ0 σv) → (Kp 34 σ σv) → Wp mX1_tallyOf 5 (fun v σ' => v = gI (TL σ0 t w) ∧ QC σ0 σ' ∧ Kp 34 σ σ') σv 5 [gR 125, gI t, gI w, gI n, gI i, gX 1, gX 1] [] := by
    intro m_5
    induction m_5 using Nat.strongRecOn with
    | _ m_5 ih_5 =>
      intro i n σv hmeas_5 h0 h1 hn hqv hkv
      have hrow := fun h : i < σ0 125 10 => vote_row hI h0 h
      have hin := TL_in σ0 t w i.toNat
      have hvw : vW σ0 t i = WARM σ0 (σ0 130 i) (σ0 127 (σ0 129 i)) (σ0 128 (σ0 129 i)) t := rfl
      refine w_iload (pc' := 7) (by rfl) dX1_tallyOf_5 rfl ?_
      refine w_aload_n (pc' := 8) (i := 0) (by rfl) (by rfl) dX1_tallyOf_7 rfl ?_
      refine v_getI (pc' := 11) (ji := 10) rfl fg_X1_45 kd_125 dX1_tallyOf_8 rfl ?_
      rw [(hqv).rd (k := 125) (i := 10) (.inr rfl)]
      refine w_icmp_ge (pc' := 14) (t := 128) dX1_tallyOf_11 rfl rfl (fun c_11 => ?_) (fun c_11 => ?_)
      · skip
        refine w_iload_n (pc' := 129) (i := 3) (by rfl) (by rfl) dX1_tallyOf_128 rfl ?_
        refine v_ireturn rfl dX1_tallyOf_129 ?_
        have e : i = σ0 125 10 := by omega
        exact ⟨congrArg gI (by rw [hn, e]; rfl), hqv, hkv⟩
      · skip
        refine w_iload (pc' := 16) (by rfl) dX1_tallyOf_14 rfl ?_
        refine w_sipush (pc' := 19) (by decide) (by decide) dX1_tallyOf_16 rfl ?_
        refine w_icmp_ge (pc' := 22) (t := 128) dX1_tallyOf_19 rfl rfl (fun c_19 => ?_) (fun c_19 => ?_)
        · skip
          refine w_iload_n (pc' := 129) (i := 3) (by rfl) (by rfl) dX1_tallyOf_128 rfl ?_
          refine v_ireturn rfl dX1_tallyOf_129 ?_
          have e : i = σ0 125 10 := by omega
          exact ⟨congrArg gI (by rw [hn, e]; rfl), hqv, hkv⟩
        · skip
          refine w_aload_n (pc' := 23) (i := 0) (by rfl) (by rfl) dX1_tallyOf_22 rfl ?_
          refine w_getS (pc' := 26) (q := 129) fg_X1_21 kd_125 sf_X1_6 gr_125_6 dX1_tallyOf_23 rfl ?_
          refine w_iload (pc' := 28) (by rfl) dX1_tallyOf_26 rfl ?_
          refine w_iald (pc' := 29) kd_129 (by (first | omega | (have := hrow (by omega); omega))) (by (first | omega | (have := hrow (by omega); omega))) dX1_tallyOf_28 rfl ?_
          rw [(hqv).rd (k := 129) (i := i) (.inr rfl)]
          refine w_istore (pc' := 31) (ls' := [gR 125, gI t, gI w, gI n, gI i, gI (σ0 129 i), gX 1]) (by decide) (by rfl) dX1_tallyOf_29 rfl ?_
          have hj_55 : Wp mX1_tallyOf 5 (fun v σ' => v = gI (TL σ0 t w) ∧ QC σ0 σ' ∧ Kp 34 σ σ') σv 55 [gR 125, gI t, gI w, gI n, gI i, gI (σ0 129 i), gX 1] [gI (gb (w = 0 ∨ w = 2 ∨ σ0 131 i ≠ 0))] := by
            refine w_istore (pc' := 57) (ls' := [gR 125, gI t, gI w, gI n, gI i, gI (σ0 129 i), gI (gb (w = 0 ∨ w = 2 ∨ σ0 131 i ≠ 0))]) (by decide) (by rfl) dX1_tallyOf_55 rfl ?_
            refine w_aload_n (pc' := 58) (i := 0) (by rfl) (by rfl) dX1_tallyOf_57 rfl ?_
            refine w_getS (pc' := 61) (q := 132) fg_X1_31 kd_125 sf_X1_9 gr_125_9 dX1_tallyOf_58 rfl ?_
            refine w_iload (pc' := 63) (by rfl) dX1_tallyOf_61 rfl ?_
            refine w_iald (pc' := 64) kd_132 (by (first | omega | (have := hrow (by omega); omega))) (by (first | omega | (have := hrow (by omega); omega))) dX1_tallyOf_63 rfl ?_
            rw [(hqv).rd (k := 132) (i := i) (.inr rfl)]
            refine w_iload_n (pc' := 65) (i := 1) (by rfl) (by rfl) dX1_tallyOf_64 rfl ?_
            refine w_icmp_gt (pc' := 68) (t := 122) dX1_tallyOf_65 rfl rfl (fun c_65 => ?_) (fun c_65 => ?_)
            · skip
              refine v_iinc (pc' := 125) (x := i) (ls' := [gR 125, gI t, gI w, gI n, gI (i + 1), gI (σ0 129 i), gI (gb (w = 0 ∨ w = 2 ∨ σ0 131 i ≠ 0))]) (by (first | omega | (have := hrow (by omega); omega))) (by decide) (by rfl) (by rfl) dX1_tallyOf_122 rfl ?_
              refine w_goto (pc' := 5) dX1_tallyOf_125 rfl ?_
              refine Wp.lose (ls' := [gR 125, gI t, gI w, gI n, gI (i + 1), gX 1, gX 1]) ⟨.inr rfl, ⟨.inr rfl, ⟨.inr rfl, ⟨.inr rfl, ⟨.inr rfl, ⟨.inl rfl, ⟨.inl rfl, trivial⟩⟩⟩⟩⟩⟩⟩ ?_
              exact ih_5 _ (by omega) (i + 1) n σv rfl (by omega) (by omega) (by first | (rw [TL_f h0 (show ¬ _ by omega)]; exact hn) | (rw [TL_t h0 (show _ ∧ _ ∧ _ by omega), hn])) (by first | exact hqv | exact hq_113) (by first | exact hkv | exact hkv.trans hk_113)
            · skip
              refine w_iload (pc' := 70) (by rfl) dX1_tallyOf_68 rfl ?_
              refine v_if_eqB (pc' := 73) (t := 122) dX1_tallyOf_70 rfl rfl (fun c_70 => ?_) (fun c_70 => ?_)
              · skip
                refine v_iinc (pc' := 125) (x := i) (ls' := [gR 125, gI t, gI w, gI n, gI (i + 1), gI (σ0 129 i), gI (gb (w = 0 ∨ w = 2 ∨ σ0 131 i ≠ 0))]) (by (first | omega | (have := hrow (by omega); omega))) (by decide) (by rfl) (by rfl) dX1_tallyOf_122 rfl ?_
                refine w_goto (pc' := 5) dX1_tallyOf_125 rfl ?_
                refine Wp.lose (ls' := [gR 125, gI t, gI w, gI n, gI (i + 1), gX 1, gX 1]) ⟨.inr rfl, ⟨.inr rfl, ⟨.inr rfl, ⟨.inr rfl, ⟨.inr rfl, ⟨.inl rfl, ⟨.inl rfl, trivial⟩⟩⟩⟩⟩⟩⟩ ?_
                exact ih_5 _ (by omega) (i + 1) n σv rfl (by omega) (by omega) (by first | (rw [TL_f h0 (show ¬ _ by omega)]; exact hn) | (rw [TL_t h0 (show _ ∧ _ ∧ _ by omega), hn])) (by first | exact hqv | exact hq_113) (by first | exact hkv | exact hkv.trans hk_113)
              · skip
                refine w_aload_n (pc' := 74) (i := 0) (by rfl) (by rfl) dX1_tallyOf_73 rfl ?_
                refine w_iload (pc' := 76) (by rfl) dX1_tallyOf_74 rfl ?_
                refine v_callVE (pc' := 79) (st' := [gI (gb (0 ≤ (σ0 129 i) ∧ (σ0 129 i) < σ0 125 5))]) (d' := 0) (av := [gI (σ0 129 i)]) mi_mX1_hasMatter lk_X1_52 rfl ci_X1 kd_125 rfl (Nat.le_of_ble_eq_true rfl) (Nat.le_of_ble_eq_true rfl) dX1_tallyOf_76 rfl rfl (hmP (F := fun z => gI (gb (0 ≤ (σ0 129 i) ∧ (σ0 129 i) < z 125 5))) (hqv.1) (fun _ => rfl) (k_hasMatter σv (hm_FA (hqv.1) hI.1).1.mat.2.2.1 (σ0 129 i))) ?_
                refine v_if_eqB (pc' := 82) (t := 122) dX1_tallyOf_79 rfl rfl (fun c_79 => ?_) (fun c_79 => ?_)
                · skip
                  refine v_iinc (pc' := 125) (x := i) (ls' := [gR 125, gI t, gI w, gI n, gI (i + 1), gI (σ0 129 i), gI (gb (w = 0 ∨ w = 2 ∨ σ0 131 i ≠ 0))]) (by (first | omega | (have := hrow (by omega); omega))) (by decide) (by rfl) (by rfl) dX1_tallyOf_122 rfl ?_
                  refine w_goto (pc' := 5) dX1_tallyOf_125 rfl ?_
                  refine Wp.lose (ls' := [gR 125, gI t, gI w, gI n, gI (i + 1), gX 1, gX 1]) ⟨.inr rfl, ⟨.inr rfl, ⟨.inr rfl, ⟨.inr rfl, ⟨.inr rfl, ⟨.inl rfl, ⟨.inl rfl, trivial⟩⟩⟩⟩⟩⟩⟩ ?_
                  exact ih_5 _ (by omega) (i + 1) n σv rfl (by omega) (by omega) (by first | (rw [TL_f h0 (show ¬ _ by omega)]; exact hn) | (rw [TL_t h0 (show _ ∧ _ ∧ _ by omega), hn])) (by first | exact hqv | exact hq_113) (by first | exact hkv | exact hkv.trans hk_113)
                · skip
                  refine w_iload_n (pc' := 83) (i := 2) (by rfl) (by rfl) dX1_tallyOf_82 rfl ?_
                  refine w_iconst (pc' := 84) (by decide) dX1_tallyOf_83 rfl ?_
                  refine w_icmp_lt (pc' := 87) (t := 119) dX1_tallyOf_84 rfl rfl (fun c_84 => ?_) (fun c_84 => ?_)
                  · skip
                    refine v_iinc (pc' := 122) (x := n) (ls' := [gR 125, gI t, gI w, gI (n + 1), gI i, gI (σ0 129 i), gI (gb (w = 0 ∨ w = 2 ∨ σ0 131 i ≠ 0))]) (by (first | omega | (have := hrow (by omega); omega))) (by decide) (by rfl) (by rfl) dX1_tallyOf_119 rfl ?_
                    refine v_iinc (pc' := 125) (x := i) (ls' := [gR 125, gI t, gI w, gI (n + 1), gI (i + 1), gI (σ0 129 i), gI (gb (w = 0 ∨ w = 2 ∨ σ0 131 i ≠ 0))]) (by (first | omega | (have := hrow (by omega); omega))) (by decide) (by rfl) (by rfl) dX1_tallyOf_122 rfl ?_
                    refine w_goto (pc' := 5) dX1_tallyOf_125 rfl ?_
                    refine Wp.lose (ls' := [gR 125, gI t, gI w, gI (n + 1), gI (i + 1), gX 1, gX 1]) ⟨.inr rfl, ⟨.inr rfl, ⟨.inr rfl, ⟨.inr rfl, ⟨.inr rfl, ⟨.inl rfl, ⟨.inl rfl, trivial⟩⟩⟩⟩⟩⟩⟩ ?_
                    exact ih_5 _ (by omega) (i + 1) (n + 1) σv rfl (by omega) (by omega) (by first | (rw [TL_f h0 (show ¬ _ by omega)]; exact hn) | (rw [TL_t h0 (show _ ∧ _ ∧ _ by omega), hn])) (by first | exact hqv | exact hq_113) (by first | exact hkv | exact hkv.trans hk_113)
                  · skip
                    refine w_aload_n (pc' := 88) (i := 0) (by rfl) (by rfl) dX1_tallyOf_87 rfl ?_
                    refine w_getS (pc' := 91) (q := 110) fg_X1_34 kd_125 sf_X1_0 gr_125_0 dX1_tallyOf_88 rfl ?_
                    refine w_aload_n (pc' := 92) (i := 0) (by rfl) (by rfl) dX1_tallyOf_91 rfl ?_
                    refine w_getS (pc' := 95) (q := 130) fg_X1_24 kd_125 sf_X1_7 gr_125_7 dX1_tallyOf_92 rfl ?_
                    refine w_iload (pc' := 97) (by rfl) dX1_tallyOf_95 rfl ?_
                    refine w_iald (pc' := 98) kd_130 (by (first | omega | (have := hrow (by omega); omega))) (by (first | omega | (have := hrow (by omega); omega))) dX1_tallyOf_97 rfl ?_
                    rw [(hqv).rd (k := 130) (i := i) (.inr rfl)]
                    refine w_aload_n (pc' := 99) (i := 0) (by rfl) (by rfl) dX1_tallyOf_98 rfl ?_
                    refine w_getS (pc' := 102) (q := 127) fg_X1_15 kd_125 sf_X1_3 gr_125_3 dX1_tallyOf_99 rfl ?_
                    refine w_iload (pc' := 104) (by rfl) dX1_tallyOf_102 rfl ?_
                    refine w_iald (pc' := 105) kd_127 (by (first | omega | (have := hrow (by omega); omega))) (by (first | omega | (have := hrow (by omega); omega))) dX1_tallyOf_104 rfl ?_
                    rw [(hqv).rd (k := 127) (i := σ0 129 i) (.inr rfl)]
                    refine w_aload_n (pc' := 106) (i := 0) (by rfl) (by rfl) dX1_tallyOf_105 rfl ?_
                    refine w_getS (pc' := 109) (q := 128) fg_X1_18 kd_125 sf_X1_4 gr_125_4 dX1_tallyOf_106 rfl ?_
                    refine w_iload (pc' := 111) (by rfl) dX1_tallyOf_109 rfl ?_
                    refine w_iald (pc' := 112) kd_128 (by (first | omega | (have := hrow (by omega); omega))) (by (first | omega | (have := hrow (by omega); omega))) dX1_tallyOf_111 rfl ?_
                    rw [(hqv).rd (k := 128) (i := σ0 129 i) (.inr rfl)]
                    refine w_iload_n (pc' := 113) (i := 1) (by rfl) (by rfl) dX1_tallyOf_112 rfl ?_
                    refine w_callV (pc' := 116) (d' := 4) (av := [gI (σ0 130 i), gI (σ0 127 (σ0 129 i)), gI (σ0 128 (σ0 129 i)), gI t]) mi_mX3_isWarm lk_X1_65 rfl ci_X3 kd_110 rfl (Nat.le_of_ble_eq_true rfl) (Nat.le_of_ble_eq_true rfl) dX1_tallyOf_113 rfl (k_isWarm hI hqv (σ0 130 i) (σ0 127 (σ0 129 i)) (σ0 128 (σ0 129 i)) t (by (first | omega | (have := hrow (by omega); omega))) (by (first | omega | (have := hrow (by omega); omega)))) (fun v_113 σ113 q_113 => ?_)
                    obtain ⟨rfl, hq_113, hk_113⟩ := q_113
                    show Wp _ _ _ _ _ _ [gI (WARM σ0 (σ0 130 i) (σ0 127 (σ0 129 i)) (σ0 128 (σ0 129 i)) t)]
                    refine w_if_eq (pc' := 119) (t := 122) dX1_tallyOf_116 rfl rfl (fun c_116 => ?_) (fun c_116 => ?_)
                    · skip
                      refine v_iinc (pc' := 125) (x := i) (ls' := [gR 125, gI t, gI w, gI n, gI (i + 1), gI (σ0 129 i), gI (gb (w = 0 ∨ w = 2 ∨ σ0 131 i ≠ 0))]) (by (first | omega | (have := hrow (by omega); omega))) (by decide) (by rfl) (by rfl) dX1_tallyOf_122 rfl ?_
                      refine w_goto (pc' := 5) dX1_tallyOf_125 rfl ?_
                      refine Wp.lose (ls' := [gR 125, gI t, gI w, gI n, gI (i + 1), gX 1, gX 1]) ⟨.inr rfl, ⟨.inr rfl, ⟨.inr rfl, ⟨.inr rfl, ⟨.inr rfl, ⟨.inl rfl, ⟨.inl rfl, trivial⟩⟩⟩⟩⟩⟩⟩ ?_
                      exact ih_5 _ (by omega) (i + 1) n σ113 rfl (by omega) (by omega) (by first | (rw [TL_f h0 (show ¬ _ by omega)]; exact hn) | (rw [TL_t h0 (show _ ∧ _ ∧ _ by omega), hn])) (by first | exact hqv | exact hq_113) (by first | exact hkv | exact hkv.trans hk_113)
                    · skip
                      refine v_iinc (pc' := 122) (x := n) (ls' := [gR 125, gI t, gI w, gI (n + 1), gI i, gI (σ0 129 i), gI (gb (w = 0 ∨ w = 2 ∨ σ0 131 i ≠ 0))]) (by (first | omega | (have := hrow (by omega); omega))) (by decide) (by rfl) (by rfl) dX1_tallyOf_119 rfl ?_
                      refine v_iinc (pc' := 125) (x := i) (ls' := [gR 125, gI t, gI w, gI (n + 1), gI (i + 1), gI (σ0 129 i), gI (gb (w = 0 ∨ w = 2 ∨ σ0 131 i ≠ 0))]) (by (first | omega | (have := hrow (by omega); omega))) (by decide) (by rfl) (by rfl) dX1_tallyOf_122 rfl ?_
                      refine w_goto (pc' := 5) dX1_tallyOf_125 rfl ?_
                      refine Wp.lose (ls' := [gR 125, gI t, gI w, gI (n + 1), gI (i + 1), gX 1, gX 1]) ⟨.inr rfl, ⟨.inr rfl, ⟨.inr rfl, ⟨.inr rfl, ⟨.inr rfl, ⟨.inl rfl, ⟨.inl rfl, trivial⟩⟩⟩⟩⟩⟩⟩ ?_
                      exact ih_5 _ (by omega) (i + 1) (n + 1) σ113 rfl (by omega) (by omega) (by first | (rw [TL_f h0 (show ¬ _ by omega)]; exact hn) | (rw [TL_t h0 (show _ ∧ _ ∧ _ by omega), hn])) (by first | exact hqv | exact hq_113) (by first | exact hkv | exact hkv.trans hk_113)
          refine w_iload_n (pc' := 32) (i := 2) (by rfl) (by rfl) dX1_tallyOf_31 rfl ?_
          refine w_if_eq (pc' := 35) (t := 50) dX1_tallyOf_32 rfl rfl (fun c_32 => ?_) (fun c_32 => ?_)
          · skip
            refine w_iconst (pc' := 51) (by decide) dX1_tallyOf_50 rfl ?_
            refine w_goto (pc' := 55) dX1_tallyOf_51 rfl ?_
            exact Wp.stI (by first | (exfalso; omega) | exact (gb_t (P := w = 0 ∨ w = 2 ∨ σ0 131 i ≠ 0) (by omega)).symm) hj_55
          · skip
            refine w_iload_n (pc' := 36) (i := 2) (by rfl) (by rfl) dX1_tallyOf_35 rfl ?_
            refine w_iconst (pc' := 37) (by decide) dX1_tallyOf_36 rfl ?_
            refine w_icmp_eq (pc' := 40) (t := 50) dX1_tallyOf_37 rfl rfl (fun c_37 => ?_) (fun c_37 => ?_)
            · skip
              refine w_iconst (pc' := 51) (by decide) dX1_tallyOf_50 rfl ?_
              refine w_goto (pc' := 55) dX1_tallyOf_51 rfl ?_
              exact Wp.stI (by first | (exfalso; omega) | exact (gb_t (P := w = 0 ∨ w = 2 ∨ σ0 131 i ≠ 0) (by omega)).symm) hj_55
            · skip
              refine w_aload_n (pc' := 41) (i := 0) (by rfl) (by rfl) dX1_tallyOf_40 rfl ?_
              refine w_getS (pc' := 44) (q := 131) fg_X1_27 kd_125 sf_X1_8 gr_125_8 dX1_tallyOf_41 rfl ?_
              refine w_iload (pc' := 46) (by rfl) dX1_tallyOf_44 rfl ?_
              refine w_zald (pc' := 47) kd_131 (by (first | omega | (have := hrow (by omega); omega))) (by (first | omega | (have := hrow (by omega); omega))) dX1_tallyOf_46 rfl (fun z_46 => ?_)
              rw [(hqv).rd (k := 131) (i := i) (.inr rfl)]
              refine w_if_eq (pc' := 50) (t := 54) dX1_tallyOf_47 rfl rfl (fun c_47 => ?_) (fun c_47 => ?_)
              · skip
                refine w_iconst (pc' := 55) (by decide) dX1_tallyOf_54 rfl ?_
                exact Wp.stI (by first | (exfalso; omega) | exact (gb_f (P := w = 0 ∨ w = 2 ∨ σ0 131 i ≠ 0) (by omega)).symm) hj_55
              · skip
                refine w_iconst (pc' := 51) (by decide) dX1_tallyOf_50 rfl ?_
                refine w_goto (pc' := 55) dX1_tallyOf_51 rfl ?_
                exact Wp.stI (by first | (exfalso; omega) | exact (gb_t (P := w = 0 ∨ w = 2 ∨ σ0 131 i ≠ 0) (by omega)).symm) hj_55
  exact hl_5 _ 0 0 σ rfl (by omega) (by omega) (by rfl) (by exact hq) (by exact Kp.refl)
set_option maxHeartbeats 4000000 in
theorem q_countVotes {σ0 σ : gH} (hI : Inv σ0) (hq : QM σ0 σ) (t : Int) : Mt mX12_countVotes 4 [gR 133, gI t] σ (fun v σ' => v = gX 1 ∧ QM σ0 σ' ∧ σ' 133 111 = TL σ0 t 0 ∧ σ' 133 112 = TL σ0 t 1 ∧ σ' 133 113 = TL σ0 t 2 ∧ σ' 133 114 = TL σ0 t 3 ∧ σ' 133 0 = σ 133 0 ∧ σ' 208 = σ 208) := by
  refine Mt.walk (ls := [gR 133, gI t, gX 1, gX 1]) pn_X12 rfl (fun _ _ h => by cases h.1) (Nat.le_of_ble_eq_true rfl) rfl ?_
  have hv0 := hI.f.vote.2.1
  have hv200 := hI.f.vote.2.2.1
  have hp60 := hI.f.hp
  refine w_aload_n (pc' := 1) (i := 0) (by rfl) (by rfl) dX12_countVotes_0 rfl ?_
  refine w_iconst (pc' := 2) (by decide) dX12_countVotes_1 rfl ?_
  refine v_putI (pc' := 5) (ji := 111) rfl fp_X12_586 kd_133 sf_X12_111 dX12_countVotes_2 rfl ?_
  refine w_aload_n (pc' := 6) (i := 0) (by rfl) (by rfl) dX12_countVotes_5 rfl ?_
  refine w_iconst (pc' := 7) (by decide) dX12_countVotes_6 rfl ?_
  refine v_putI (pc' := 10) (ji := 112) rfl fp_X12_589 kd_133 sf_X12_112 dX12_countVotes_7 rfl ?_
  refine w_aload_n (pc' := 11) (i := 0) (by rfl) (by rfl) dX12_countVotes_10 rfl ?_
  refine w_iconst (pc' := 12) (by decide) dX12_countVotes_11 rfl ?_
  refine v_putI (pc' := 15) (ji := 113) rfl fp_X12_592 kd_133 sf_X12_113 dX12_countVotes_12 rfl ?_
  refine w_aload_n (pc' := 16) (i := 0) (by rfl) (by rfl) dX12_countVotes_15 rfl ?_
  refine w_iconst (pc' := 17) (by decide) dX12_countVotes_16 rfl ?_
  refine v_putI (pc' := 20) (ji := 114) rfl fp_X12_595 kd_133 sf_X12_114 dX12_countVotes_17 rfl ?_
  refine w_iconst (pc' := 21) (by decide) dX12_countVotes_20 rfl ?_
  refine w_istore_n (pc' := 22) (i := 2) (ls' := [gR 133, gI t, gI 0, gX 1]) (by rfl) (by decide) (by rfl) dX12_countVotes_21 rfl ?_
  have hq0 : QM σ0 (gUp (gUp (gUp (gUp σ 133 111 0) 133 112 0) 133 113 0) 133 114 0) := (QM.up (k := 133) (i := 114) (v := 0) (QM.up (k := 133) (i := 113) (v := 0) (QM.up (k := 133) (i := 112) (v := 0) (QM.up (k := 133) (i := 111) (v := 0) hq (by decide) (fun h => h)) (by decide) (fun h => h)) (by decide) (fun h => h)) (by decide) (fun h => h))
  have hl_22 : ∀ (mm : Nat) (i : Int) (σv : gH), (σ0 125 10 - i).toNat = mm → (0 ≤ i) → (i ≤ σ0 125 10) → (σv 133 111 = TLn σ0 t 0 i.toNat) → (σv 133 112 = TLn σ0 t 1 i.toNat) → (σv 133 113 = TLn σ0 t 2 i.toNat) → (σv 133 114 = TLn σ0 t 3 i.toNat) → (QM σ0 σv) → (σv 133 0 = σ 133 0) → (σv 208 = σ 208) → Wp mX12_countVotes 4 (fun v σ' => v = gX 1 ∧ QM σ0 σ' ∧ σ' 133 111 = TL σ0 t 0 ∧ σ' 133 112 = TL σ0 t 1 ∧ σ' 133 113 = TL σ0 t 2 ∧ σ' 133 114 = TL σ0 t 3 ∧ σ' 133 0 = σ 133 0 ∧ σ' 208 = σ 208) σv 22 [gR 133, gI t, gI i, gX 1] [] := by
    intro m_22
    induction m_22 using Nat.strongRecOn with
    | _ m_22 ih_22 =>
      intro i σv hmeas_22 h0 h1 ha0 ha1 ha2 ha3 hqv hx0 hx8
      have hrow := fun h : i < σ0 125 10 => vote_row hI h0 h
      have hin0 := TL_in σ0 t 0 i.toNat
      have hin1 := TL_in σ0 t 1 i.toNat
      have hin2 := TL_in σ0 t 2 i.toNat
      have hin3 := TL_in σ0 t 3 i.toNat
      refine w_iload_n (pc' := 23) (i := 2) (by rfl) (by rfl) dX12_countVotes_22 rfl ?_
      refine w_aload_n (pc' := 24) (i := 0) (by rfl) (by rfl) dX12_countVotes_23 rfl ?_
      refine v_getI (pc' := 27) (ji := 110) rfl fg_X12_583 kd_133 dX12_countVotes_24 rfl ?_
      rw [(hqv).rd (k := 133) (i := 110) (.inr rfl)]
      rw [hI.f110]
      refine w_icmp_ge (pc' := 30) (t := 122) dX12_countVotes_27 rfl rfl (fun c_27 => ?_) (fun c_27 => ?_)
      · skip
        refine w_return rfl dX12_countVotes_122 ?_
        have e : i = σ0 125 10 := by omega
        rw [e] at ha0 ha1 ha2 ha3
        exact ⟨rfl, hqv, ha0, ha1, ha2, ha3, hx0, hx8⟩
      · skip
        refine w_aload_n (pc' := 31) (i := 0) (by rfl) (by rfl) dX12_countVotes_30 rfl ?_
        refine w_getS (pc' := 34) (q := 205) fg_X12_235 kd_133 sf_X12_108 gr_133_108 dX12_countVotes_31 rfl ?_
        refine w_iload_n (pc' := 35) (i := 2) (by rfl) (by rfl) dX12_countVotes_34 rfl ?_
        refine w_iald (pc' := 36) kd_205 (by (first | omega | (have := hrow (by omega); omega))) (by (first | omega | (have := hrow (by omega); omega))) dX12_countVotes_35 rfl ?_
        rw [(hqv).rd (k := 205) (i := i) (.inr rfl)]
        rw [hI.e205 (i := i) (by (first | omega | (have := hrow (by omega); omega))) (by (first | omega | (have := hrow (by omega); omega)))]
        refine w_iload_n (pc' := 37) (i := 1) (by rfl) (by rfl) dX12_countVotes_36 rfl ?_
        refine w_icmp_le (pc' := 40) (t := 43) dX12_countVotes_37 rfl rfl (fun c_37 => ?_) (fun c_37 => ?_)
        · skip
          refine w_aload_n (pc' := 44) (i := 0) (by rfl) (by rfl) dX12_countVotes_43 rfl ?_
          refine w_iload_n (pc' := 45) (i := 2) (by rfl) (by rfl) dX12_countVotes_44 rfl ?_
          refine w_iload_n (pc' := 46) (i := 1) (by rfl) (by rfl) dX12_countVotes_45 rfl ?_
          refine w_callV (pc' := 49) (d' := 3) (av := [gI i, gI t]) mi_mX12_isWarm lk_X12_598 rfl ci_X12 kd_133 rfl (Nat.le_of_ble_eq_true rfl) (Nat.le_of_ble_eq_true rfl) dX12_countVotes_46 rfl (q_isWarm hI hqv i t ⟨by omega, by omega⟩) (fun v_46 σ46 q_46 => ?_)
          obtain ⟨rfl, hq_46, hk_46⟩ := q_46
          show Wp _ _ _ _ _ _ [gI (vW σ0 t i)]
          refine w_istore_n (pc' := 50) (i := 3) (ls' := [gR 133, gI t, gI i, gI (vW σ0 t i)]) (by rfl) (by decide) (by rfl) dX12_countVotes_49 rfl ?_
          refine w_aload_n (pc' := 51) (i := 0) (by rfl) (by rfl) dX12_countVotes_50 rfl ?_
          refine w_dup (pc' := 52) dX12_countVotes_51 rfl ?_
          refine v_getI (pc' := 55) (ji := 111) rfl fg_X12_586 kd_133 dX12_countVotes_52 rfl ?_
          rw [(hk_46).rd (k := 133) (i := 111) rfl]
          refine w_iconst (pc' := 56) (by decide) dX12_countVotes_55 rfl ?_
          refine v_iadd (pc' := 57) (by (first | omega | (have := hrow (by omega); omega))) dX12_countVotes_56 rfl ?_
          refine v_putI (pc' := 60) (ji := 111) rfl fp_X12_586 kd_133 sf_X12_111 dX12_countVotes_57 rfl ?_
          refine w_aload_n (pc' := 61) (i := 0) (by rfl) (by rfl) dX12_countVotes_60 rfl ?_
          refine w_getS (pc' := 64) (q := 206) fg_X12_238 kd_133 sf_X12_109 gr_133_109 dX12_countVotes_61 rfl ?_
          refine w_iload_n (pc' := 65) (i := 2) (by rfl) (by rfl) dX12_countVotes_64 rfl ?_
          refine w_zald (pc' := 66) kd_206 (by (first | omega | (have := hrow (by omega); omega))) (by (first | omega | (have := hrow (by omega); omega))) dX12_countVotes_65 rfl (fun z_65 => ?_)
          show Wp _ _ _ _ _ _ [gI (σ46 206 i)]
          rw [(hq_46).rd (k := 206) (i := i) (.inr rfl)]
          rw [hI.e206 (i := i) (by (first | omega | (have := hrow (by omega); omega))) (by (first | omega | (have := hrow (by omega); omega)))]
          refine w_if_eq (pc' := 69) (t := 79) dX12_countVotes_66 rfl rfl (fun c_66 => ?_) (fun c_66 => ?_)
          · skip
            refine w_iload_n (pc' := 80) (i := 3) (by rfl) (by rfl) dX12_countVotes_79 rfl ?_
            refine w_if_eq (pc' := 83) (t := 93) dX12_countVotes_80 rfl rfl (fun c_80 => ?_) (fun c_80 => ?_)
            · skip
              refine w_iload_n (pc' := 94) (i := 3) (by rfl) (by rfl) dX12_countVotes_93 rfl ?_
              refine w_if_eq (pc' := 97) (t := 116) dX12_countVotes_94 rfl rfl (fun c_94 => ?_) (fun c_94 => ?_)
              · skip
                refine v_iinc (pc' := 119) (x := i) (ls' := [gR 133, gI t, gI (i + 1), gI (vW σ0 t i)]) (by (first | omega | (have := hrow (by omega); omega))) (by decide) (by rfl) (by rfl) dX12_countVotes_116 rfl ?_
                refine w_goto (pc' := 22) dX12_countVotes_119 rfl ?_
                refine Wp.lose (ls' := [gR 133, gI t, gI (i + 1), gX 1]) ⟨.inr rfl, ⟨.inr rfl, ⟨.inr rfl, ⟨.inl rfl, trivial⟩⟩⟩⟩ ?_
                have e0 : (gUp σ46 133 111 ((σv 133 111) + 1)) 133 111 = (σv 133 111) + 1 := rfl
                have e1 : (gUp σ46 133 111 ((σv 133 111) + 1)) 133 112 = σ46 133 112 := rfl
                have e2 : (gUp σ46 133 111 ((σv 133 111) + 1)) 133 113 = σ46 133 113 := rfl
                have e3 : (gUp σ46 133 111 ((σv 133 111) + 1)) 133 114 = σ46 133 114 := rfl
                have k0 : σ46 133 111 = σv 133 111 := hk_46.rd rfl
                have k1 : σ46 133 112 = σv 133 112 := hk_46.rd rfl
                have k2 : σ46 133 113 = σv 133 113 := hk_46.rd rfl
                have k3 : σ46 133 114 = σv 133 114 := hk_46.rd rfl
                have t0 : TLn σ0 t 0 (i + 1).toNat = TLn σ0 t 0 i.toNat ∧ ¬ tlP σ0 t 0 i ∨ TLn σ0 t 0 (i + 1).toNat = TLn σ0 t 0 i.toNat + 1 ∧ tlP σ0 t 0 i := by
                  by_cases c : tlP σ0 t 0 i
                  · exact Or.inr ⟨TL_t h0 c, c⟩
                  · exact Or.inl ⟨TL_f h0 c, c⟩
                have t1 : TLn σ0 t 1 (i + 1).toNat = TLn σ0 t 1 i.toNat ∧ ¬ tlP σ0 t 1 i ∨ TLn σ0 t 1 (i + 1).toNat = TLn σ0 t 1 i.toNat + 1 ∧ tlP σ0 t 1 i := by
                  by_cases c : tlP σ0 t 1 i
                  · exact Or.inr ⟨TL_t h0 c, c⟩
                  · exact Or.inl ⟨TL_f h0 c, c⟩
                have t2 : TLn σ0 t 2 (i + 1).toNat = TLn σ0 t 2 i.toNat ∧ ¬ tlP σ0 t 2 i ∨ TLn σ0 t 2 (i + 1).toNat = TLn σ0 t 2 i.toNat + 1 ∧ tlP σ0 t 2 i := by
                  by_cases c : tlP σ0 t 2 i
                  · exact Or.inr ⟨TL_t h0 c, c⟩
                  · exact Or.inl ⟨TL_f h0 c, c⟩
                have t3 : TLn σ0 t 3 (i + 1).toNat = TLn σ0 t 3 i.toNat ∧ ¬ tlP σ0 t 3 i ∨ TLn σ0 t 3 (i + 1).toNat = TLn σ0 t 3 i.toNat + 1 ∧ tlP σ0 t 3 i := by
                  by_cases c : tlP σ0 t 3 i
                  · exact Or.inr ⟨TL_t h0 c, c⟩
                  · exact Or.inl ⟨TL_f h0 c, c⟩
                have qb : QM σ0 (gUp σ46 133 111 ((σv 133 111) + 1)) := (QM.up (k := 133) (i := 111) (v := ((σv 133 111) + 1)) hq_46 (by decide) (fun h => h))
                exact ih_22 _ (by omega) (i + 1) (gUp σ46 133 111 ((σv 133 111) + 1)) rfl (by omega) (by omega) (by omega) (by omega) (by omega) (by omega) (by exact qb) (by first | exact hx0 | exact (hk_46.rd (k := 133) (i := 0) rfl).trans hx0) (by first | exact hx8 | exact (funext fun i => hk_46.rd (k := 208) (i := i) rfl).trans hx8)
              · skip
                refine w_aload_n (pc' := 98) (i := 0) (by rfl) (by rfl) dX12_countVotes_97 rfl ?_
                refine w_getS (pc' := 101) (q := 206) fg_X12_238 kd_133 sf_X12_109 gr_133_109 dX12_countVotes_98 rfl ?_
                refine w_iload_n (pc' := 102) (i := 2) (by rfl) (by rfl) dX12_countVotes_101 rfl ?_
                refine w_zald (pc' := 103) kd_206 (by (first | omega | (have := hrow (by omega); omega))) (by (first | omega | (have := hrow (by omega); omega))) dX12_countVotes_102 rfl (fun z_102 => ?_)
                show Wp _ _ _ _ _ _ [gI (σ46 206 i)]
                rw [(hq_46).rd (k := 206) (i := i) (.inr rfl)]
                rw [hI.e206 (i := i) (by (first | omega | (have := hrow (by omega); omega))) (by (first | omega | (have := hrow (by omega); omega)))]
                refine w_if_eq (pc' := 106) (t := 116) dX12_countVotes_103 rfl rfl (fun c_103 => ?_) (fun c_103 => ?_)
                · skip
                  refine v_iinc (pc' := 119) (x := i) (ls' := [gR 133, gI t, gI (i + 1), gI (vW σ0 t i)]) (by (first | omega | (have := hrow (by omega); omega))) (by decide) (by rfl) (by rfl) dX12_countVotes_116 rfl ?_
                  refine w_goto (pc' := 22) dX12_countVotes_119 rfl ?_
                  refine Wp.lose (ls' := [gR 133, gI t, gI (i + 1), gX 1]) ⟨.inr rfl, ⟨.inr rfl, ⟨.inr rfl, ⟨.inl rfl, trivial⟩⟩⟩⟩ ?_
                  have e0 : (gUp σ46 133 111 ((σv 133 111) + 1)) 133 111 = (σv 133 111) + 1 := rfl
                  have e1 : (gUp σ46 133 111 ((σv 133 111) + 1)) 133 112 = σ46 133 112 := rfl
                  have e2 : (gUp σ46 133 111 ((σv 133 111) + 1)) 133 113 = σ46 133 113 := rfl
                  have e3 : (gUp σ46 133 111 ((σv 133 111) + 1)) 133 114 = σ46 133 114 := rfl
                  have k0 : σ46 133 111 = σv 133 111 := hk_46.rd rfl
                  have k1 : σ46 133 112 = σv 133 112 := hk_46.rd rfl
                  have k2 : σ46 133 113 = σv 133 113 := hk_46.rd rfl
                  have k3 : σ46 133 114 = σv 133 114 := hk_46.rd rfl
                  have t0 : TLn σ0 t 0 (i + 1).toNat = TLn σ0 t 0 i.toNat ∧ ¬ tlP σ0 t 0 i ∨ TLn σ0 t 0 (i + 1).toNat = TLn σ0 t 0 i.toNat + 1 ∧ tlP σ0 t 0 i := by
                    by_cases c : tlP σ0 t 0 i
                    · exact Or.inr ⟨TL_t h0 c, c⟩
                    · exact Or.inl ⟨TL_f h0 c, c⟩
                  have t1 : TLn σ0 t 1 (i + 1).toNat = TLn σ0 t 1 i.toNat ∧ ¬ tlP σ0 t 1 i ∨ TLn σ0 t 1 (i + 1).toNat = TLn σ0 t 1 i.toNat + 1 ∧ tlP σ0 t 1 i := by
                    by_cases c : tlP σ0 t 1 i
                    · exact Or.inr ⟨TL_t h0 c, c⟩
                    · exact Or.inl ⟨TL_f h0 c, c⟩
                  have t2 : TLn σ0 t 2 (i + 1).toNat = TLn σ0 t 2 i.toNat ∧ ¬ tlP σ0 t 2 i ∨ TLn σ0 t 2 (i + 1).toNat = TLn σ0 t 2 i.toNat + 1 ∧ tlP σ0 t 2 i := by
                    by_cases c : tlP σ0 t 2 i
                    · exact Or.inr ⟨TL_t h0 c, c⟩
                    · exact Or.inl ⟨TL_f h0 c, c⟩
                  have t3 : TLn σ0 t 3 (i + 1).toNat = TLn σ0 t 3 i.toNat ∧ ¬ tlP σ0 t 3 i ∨ TLn σ0 t 3 (i + 1).toNat = TLn σ0 t 3 i.toNat + 1 ∧ tlP σ0 t 3 i := by
                    by_cases c : tlP σ0 t 3 i
                    · exact Or.inr ⟨TL_t h0 c, c⟩
                    · exact Or.inl ⟨TL_f h0 c, c⟩
                  have qb : QM σ0 (gUp σ46 133 111 ((σv 133 111) + 1)) := (QM.up (k := 133) (i := 111) (v := ((σv 133 111) + 1)) hq_46 (by decide) (fun h => h))
                  exact ih_22 _ (by omega) (i + 1) (gUp σ46 133 111 ((σv 133 111) + 1)) rfl (by omega) (by omega) (by omega) (by omega) (by omega) (by omega) (by exact qb) (by first | exact hx0 | exact (hk_46.rd (k := 133) (i := 0) rfl).trans hx0) (by first | exact hx8 | exact (funext fun i => hk_46.rd (k := 208) (i := i) rfl).trans hx8)
                · skip
                  refine w_aload_n (pc' := 107) (i := 0) (by rfl) (by rfl) dX12_countVotes_106 rfl ?_
                  refine w_dup (pc' := 108) dX12_countVotes_107 rfl ?_
                  refine v_getI (pc' := 111) (ji := 114) rfl fg_X12_595 kd_133 dX12_countVotes_108 rfl ?_
                  show Wp _ _ _ _ _ _ [gI (σ46 133 114), gR 133]
                  rw [(hk_46).rd (k := 133) (i := 114) rfl]
                  refine w_iconst (pc' := 112) (by decide) dX12_countVotes_111 rfl ?_
                  refine v_iadd (pc' := 113) (by (first | omega | (have := hrow (by omega); omega))) dX12_countVotes_112 rfl ?_
                  refine v_putI (pc' := 116) (ji := 114) rfl fp_X12_595 kd_133 sf_X12_114 dX12_countVotes_113 rfl ?_
                  refine v_iinc (pc' := 119) (x := i) (ls' := [gR 133, gI t, gI (i + 1), gI (vW σ0 t i)]) (by (first | omega | (have := hrow (by omega); omega))) (by decide) (by rfl) (by rfl) dX12_countVotes_116 rfl ?_
                  refine w_goto (pc' := 22) dX12_countVotes_119 rfl ?_
                  refine Wp.lose (ls' := [gR 133, gI t, gI (i + 1), gX 1]) ⟨.inr rfl, ⟨.inr rfl, ⟨.inr rfl, ⟨.inl rfl, trivial⟩⟩⟩⟩ ?_
                  have e0 : (gUp (gUp σ46 133 111 ((σv 133 111) + 1)) 133 114 ((σv 133 114) + 1)) 133 111 = (σv 133 111) + 1 := rfl
                  have e1 : (gUp (gUp σ46 133 111 ((σv 133 111) + 1)) 133 114 ((σv 133 114) + 1)) 133 112 = σ46 133 112 := rfl
                  have e2 : (gUp (gUp σ46 133 111 ((σv 133 111) + 1)) 133 114 ((σv 133 114) + 1)) 133 113 = σ46 133 113 := rfl
                  have e3 : (gUp (gUp σ46 133 111 ((σv 133 111) + 1)) 133 114 ((σv 133 114) + 1)) 133 114 = (σv 133 114) + 1 := rfl
                  have k0 : σ46 133 111 = σv 133 111 := hk_46.rd rfl
                  have k1 : σ46 133 112 = σv 133 112 := hk_46.rd rfl
                  have k2 : σ46 133 113 = σv 133 113 := hk_46.rd rfl
                  have k3 : σ46 133 114 = σv 133 114 := hk_46.rd rfl
                  have t0 : TLn σ0 t 0 (i + 1).toNat = TLn σ0 t 0 i.toNat ∧ ¬ tlP σ0 t 0 i ∨ TLn σ0 t 0 (i + 1).toNat = TLn σ0 t 0 i.toNat + 1 ∧ tlP σ0 t 0 i := by
                    by_cases c : tlP σ0 t 0 i
                    · exact Or.inr ⟨TL_t h0 c, c⟩
                    · exact Or.inl ⟨TL_f h0 c, c⟩
                  have t1 : TLn σ0 t 1 (i + 1).toNat = TLn σ0 t 1 i.toNat ∧ ¬ tlP σ0 t 1 i ∨ TLn σ0 t 1 (i + 1).toNat = TLn σ0 t 1 i.toNat + 1 ∧ tlP σ0 t 1 i := by
                    by_cases c : tlP σ0 t 1 i
                    · exact Or.inr ⟨TL_t h0 c, c⟩
                    · exact Or.inl ⟨TL_f h0 c, c⟩
                  have t2 : TLn σ0 t 2 (i + 1).toNat = TLn σ0 t 2 i.toNat ∧ ¬ tlP σ0 t 2 i ∨ TLn σ0 t 2 (i + 1).toNat = TLn σ0 t 2 i.toNat + 1 ∧ tlP σ0 t 2 i := by
                    by_cases c : tlP σ0 t 2 i
                    · exact Or.inr ⟨TL_t h0 c, c⟩
                    · exact Or.inl ⟨TL_f h0 c, c⟩
                  have t3 : TLn σ0 t 3 (i + 1).toNat = TLn σ0 t 3 i.toNat ∧ ¬ tlP σ0 t 3 i ∨ TLn σ0 t 3 (i + 1).toNat = TLn σ0 t 3 i.toNat + 1 ∧ tlP σ0 t 3 i := by
                    by_cases c : tlP σ0 t 3 i
                    · exact Or.inr ⟨TL_t h0 c, c⟩
                    · exact Or.inl ⟨TL_f h0 c, c⟩
                  have qb : QM σ0 (gUp (gUp σ46 133 111 ((σv 133 111) + 1)) 133 114 ((σv 133 114) + 1)) := (QM.up (k := 133) (i := 114) (v := ((σv 133 114) + 1)) (QM.up (k := 133) (i := 111) (v := ((σv 133 111) + 1)) hq_46 (by decide) (fun h => h)) (by decide) (fun h => h))
                  exact ih_22 _ (by omega) (i + 1) (gUp (gUp σ46 133 111 ((σv 133 111) + 1)) 133 114 ((σv 133 114) + 1)) rfl (by omega) (by omega) (by omega) (by omega) (by omega) (by omega) (by exact qb) (by first | exact hx0 | exact (hk_46.rd (k := 133) (i := 0) rfl).trans hx0) (by first | exact hx8 | exact (funext fun i => hk_46.rd (k := 208) (i := i) rfl).trans hx8)
            · skip
              refine w_aload_n (pc' := 84) (i := 0) (by rfl) (by rfl) dX12_countVotes_83 rfl ?_
              refine w_dup (pc' := 85) dX12_countVotes_84 rfl ?_
              refine v_getI (pc' := 88) (ji := 113) rfl fg_X12_592 kd_133 dX12_countVotes_85 rfl ?_
              show Wp _ _ _ _ _ _ [gI (σ46 133 113), gR 133]
              rw [(hk_46).rd (k := 133) (i := 113) rfl]
              refine w_iconst (pc' := 89) (by decide) dX12_countVotes_88 rfl ?_
              refine v_iadd (pc' := 90) (by (first | omega | (have := hrow (by omega); omega))) dX12_countVotes_89 rfl ?_
              refine v_putI (pc' := 93) (ji := 113) rfl fp_X12_592 kd_133 sf_X12_113 dX12_countVotes_90 rfl ?_
              refine w_iload_n (pc' := 94) (i := 3) (by rfl) (by rfl) dX12_countVotes_93 rfl ?_
              refine w_if_eq (pc' := 97) (t := 116) dX12_countVotes_94 rfl rfl (fun c_94 => ?_) (fun c_94 => ?_)
              · skip
                refine v_iinc (pc' := 119) (x := i) (ls' := [gR 133, gI t, gI (i + 1), gI (vW σ0 t i)]) (by (first | omega | (have := hrow (by omega); omega))) (by decide) (by rfl) (by rfl) dX12_countVotes_116 rfl ?_
                refine w_goto (pc' := 22) dX12_countVotes_119 rfl ?_
                refine Wp.lose (ls' := [gR 133, gI t, gI (i + 1), gX 1]) ⟨.inr rfl, ⟨.inr rfl, ⟨.inr rfl, ⟨.inl rfl, trivial⟩⟩⟩⟩ ?_
                have e0 : (gUp (gUp σ46 133 111 ((σv 133 111) + 1)) 133 113 ((σv 133 113) + 1)) 133 111 = (σv 133 111) + 1 := rfl
                have e1 : (gUp (gUp σ46 133 111 ((σv 133 111) + 1)) 133 113 ((σv 133 113) + 1)) 133 112 = σ46 133 112 := rfl
                have e2 : (gUp (gUp σ46 133 111 ((σv 133 111) + 1)) 133 113 ((σv 133 113) + 1)) 133 113 = (σv 133 113) + 1 := rfl
                have e3 : (gUp (gUp σ46 133 111 ((σv 133 111) + 1)) 133 113 ((σv 133 113) + 1)) 133 114 = σ46 133 114 := rfl
                have k0 : σ46 133 111 = σv 133 111 := hk_46.rd rfl
                have k1 : σ46 133 112 = σv 133 112 := hk_46.rd rfl
                have k2 : σ46 133 113 = σv 133 113 := hk_46.rd rfl
                have k3 : σ46 133 114 = σv 133 114 := hk_46.rd rfl
                have t0 : TLn σ0 t 0 (i + 1).toNat = TLn σ0 t 0 i.toNat ∧ ¬ tlP σ0 t 0 i ∨ TLn σ0 t 0 (i + 1).toNat = TLn σ0 t 0 i.toNat + 1 ∧ tlP σ0 t 0 i := by
                  by_cases c : tlP σ0 t 0 i
                  · exact Or.inr ⟨TL_t h0 c, c⟩
                  · exact Or.inl ⟨TL_f h0 c, c⟩
                have t1 : TLn σ0 t 1 (i + 1).toNat = TLn σ0 t 1 i.toNat ∧ ¬ tlP σ0 t 1 i ∨ TLn σ0 t 1 (i + 1).toNat = TLn σ0 t 1 i.toNat + 1 ∧ tlP σ0 t 1 i := by
                  by_cases c : tlP σ0 t 1 i
                  · exact Or.inr ⟨TL_t h0 c, c⟩
                  · exact Or.inl ⟨TL_f h0 c, c⟩
                have t2 : TLn σ0 t 2 (i + 1).toNat = TLn σ0 t 2 i.toNat ∧ ¬ tlP σ0 t 2 i ∨ TLn σ0 t 2 (i + 1).toNat = TLn σ0 t 2 i.toNat + 1 ∧ tlP σ0 t 2 i := by
                  by_cases c : tlP σ0 t 2 i
                  · exact Or.inr ⟨TL_t h0 c, c⟩
                  · exact Or.inl ⟨TL_f h0 c, c⟩
                have t3 : TLn σ0 t 3 (i + 1).toNat = TLn σ0 t 3 i.toNat ∧ ¬ tlP σ0 t 3 i ∨ TLn σ0 t 3 (i + 1).toNat = TLn σ0 t 3 i.toNat + 1 ∧ tlP σ0 t 3 i := by
                  by_cases c : tlP σ0 t 3 i
                  · exact Or.inr ⟨TL_t h0 c, c⟩
                  · exact Or.inl ⟨TL_f h0 c, c⟩
                have qb : QM σ0 (gUp (gUp σ46 133 111 ((σv 133 111) + 1)) 133 113 ((σv 133 113) + 1)) := (QM.up (k := 133) (i := 113) (v := ((σv 133 113) + 1)) (QM.up (k := 133) (i := 111) (v := ((σv 133 111) + 1)) hq_46 (by decide) (fun h => h)) (by decide) (fun h => h))
                exact ih_22 _ (by omega) (i + 1) (gUp (gUp σ46 133 111 ((σv 133 111) + 1)) 133 113 ((σv 133 113) + 1)) rfl (by omega) (by omega) (by omega) (by omega) (by omega) (by omega) (by exact qb) (by first | exact hx0 | exact (hk_46.rd (k := 133) (i := 0) rfl).trans hx0) (by first | exact hx8 | exact (funext fun i => hk_46.rd (k := 208) (i := i) rfl).trans hx8)
              · skip
                refine w_aload_n (pc' := 98) (i := 0) (by rfl) (by rfl) dX12_countVotes_97 rfl ?_
                refine w_getS (pc' := 101) (q := 206) fg_X12_238 kd_133 sf_X12_109 gr_133_109 dX12_countVotes_98 rfl ?_
                refine w_iload_n (pc' := 102) (i := 2) (by rfl) (by rfl) dX12_countVotes_101 rfl ?_
                refine w_zald (pc' := 103) kd_206 (by (first | omega | (have := hrow (by omega); omega))) (by (first | omega | (have := hrow (by omega); omega))) dX12_countVotes_102 rfl (fun z_102 => ?_)
                show Wp _ _ _ _ _ _ [gI (σ46 206 i)]
                rw [(hq_46).rd (k := 206) (i := i) (.inr rfl)]
                rw [hI.e206 (i := i) (by (first | omega | (have := hrow (by omega); omega))) (by (first | omega | (have := hrow (by omega); omega)))]
                refine w_if_eq (pc' := 106) (t := 116) dX12_countVotes_103 rfl rfl (fun c_103 => ?_) (fun c_103 => ?_)
                · skip
                  refine v_iinc (pc' := 119) (x := i) (ls' := [gR 133, gI t, gI (i + 1), gI (vW σ0 t i)]) (by (first | omega | (have := hrow (by omega); omega))) (by decide) (by rfl) (by rfl) dX12_countVotes_116 rfl ?_
                  refine w_goto (pc' := 22) dX12_countVotes_119 rfl ?_
                  refine Wp.lose (ls' := [gR 133, gI t, gI (i + 1), gX 1]) ⟨.inr rfl, ⟨.inr rfl, ⟨.inr rfl, ⟨.inl rfl, trivial⟩⟩⟩⟩ ?_
                  have e0 : (gUp (gUp σ46 133 111 ((σv 133 111) + 1)) 133 113 ((σv 133 113) + 1)) 133 111 = (σv 133 111) + 1 := rfl
                  have e1 : (gUp (gUp σ46 133 111 ((σv 133 111) + 1)) 133 113 ((σv 133 113) + 1)) 133 112 = σ46 133 112 := rfl
                  have e2 : (gUp (gUp σ46 133 111 ((σv 133 111) + 1)) 133 113 ((σv 133 113) + 1)) 133 113 = (σv 133 113) + 1 := rfl
                  have e3 : (gUp (gUp σ46 133 111 ((σv 133 111) + 1)) 133 113 ((σv 133 113) + 1)) 133 114 = σ46 133 114 := rfl
                  have k0 : σ46 133 111 = σv 133 111 := hk_46.rd rfl
                  have k1 : σ46 133 112 = σv 133 112 := hk_46.rd rfl
                  have k2 : σ46 133 113 = σv 133 113 := hk_46.rd rfl
                  have k3 : σ46 133 114 = σv 133 114 := hk_46.rd rfl
                  have t0 : TLn σ0 t 0 (i + 1).toNat = TLn σ0 t 0 i.toNat ∧ ¬ tlP σ0 t 0 i ∨ TLn σ0 t 0 (i + 1).toNat = TLn σ0 t 0 i.toNat + 1 ∧ tlP σ0 t 0 i := by
                    by_cases c : tlP σ0 t 0 i
                    · exact Or.inr ⟨TL_t h0 c, c⟩
                    · exact Or.inl ⟨TL_f h0 c, c⟩
                  have t1 : TLn σ0 t 1 (i + 1).toNat = TLn σ0 t 1 i.toNat ∧ ¬ tlP σ0 t 1 i ∨ TLn σ0 t 1 (i + 1).toNat = TLn σ0 t 1 i.toNat + 1 ∧ tlP σ0 t 1 i := by
                    by_cases c : tlP σ0 t 1 i
                    · exact Or.inr ⟨TL_t h0 c, c⟩
                    · exact Or.inl ⟨TL_f h0 c, c⟩
                  have t2 : TLn σ0 t 2 (i + 1).toNat = TLn σ0 t 2 i.toNat ∧ ¬ tlP σ0 t 2 i ∨ TLn σ0 t 2 (i + 1).toNat = TLn σ0 t 2 i.toNat + 1 ∧ tlP σ0 t 2 i := by
                    by_cases c : tlP σ0 t 2 i
                    · exact Or.inr ⟨TL_t h0 c, c⟩
                    · exact Or.inl ⟨TL_f h0 c, c⟩
                  have t3 : TLn σ0 t 3 (i + 1).toNat = TLn σ0 t 3 i.toNat ∧ ¬ tlP σ0 t 3 i ∨ TLn σ0 t 3 (i + 1).toNat = TLn σ0 t 3 i.toNat + 1 ∧ tlP σ0 t 3 i := by
                    by_cases c : tlP σ0 t 3 i
                    · exact Or.inr ⟨TL_t h0 c, c⟩
                    · exact Or.inl ⟨TL_f h0 c, c⟩
                  have qb : QM σ0 (gUp (gUp σ46 133 111 ((σv 133 111) + 1)) 133 113 ((σv 133 113) + 1)) := (QM.up (k := 133) (i := 113) (v := ((σv 133 113) + 1)) (QM.up (k := 133) (i := 111) (v := ((σv 133 111) + 1)) hq_46 (by decide) (fun h => h)) (by decide) (fun h => h))
                  exact ih_22 _ (by omega) (i + 1) (gUp (gUp σ46 133 111 ((σv 133 111) + 1)) 133 113 ((σv 133 113) + 1)) rfl (by omega) (by omega) (by omega) (by omega) (by omega) (by omega) (by exact qb) (by first | exact hx0 | exact (hk_46.rd (k := 133) (i := 0) rfl).trans hx0) (by first | exact hx8 | exact (funext fun i => hk_46.rd (k := 208) (i := i) rfl).trans hx8)
                · skip
                  refine w_aload_n (pc' := 107) (i := 0) (by rfl) (by rfl) dX12_countVotes_106 rfl ?_
                  refine w_dup (pc' := 108) dX12_countVotes_107 rfl ?_
                  refine v_getI (pc' := 111) (ji := 114) rfl fg_X12_595 kd_133 dX12_countVotes_108 rfl ?_
                  show Wp _ _ _ _ _ _ [gI (σ46 133 114), gR 133]
                  rw [(hk_46).rd (k := 133) (i := 114) rfl]
                  refine w_iconst (pc' := 112) (by decide) dX12_countVotes_111 rfl ?_
                  refine v_iadd (pc' := 113) (by (first | omega | (have := hrow (by omega); omega))) dX12_countVotes_112 rfl ?_
                  refine v_putI (pc' := 116) (ji := 114) rfl fp_X12_595 kd_133 sf_X12_114 dX12_countVotes_113 rfl ?_
                  refine v_iinc (pc' := 119) (x := i) (ls' := [gR 133, gI t, gI (i + 1), gI (vW σ0 t i)]) (by (first | omega | (have := hrow (by omega); omega))) (by decide) (by rfl) (by rfl) dX12_countVotes_116 rfl ?_
                  refine w_goto (pc' := 22) dX12_countVotes_119 rfl ?_
                  refine Wp.lose (ls' := [gR 133, gI t, gI (i + 1), gX 1]) ⟨.inr rfl, ⟨.inr rfl, ⟨.inr rfl, ⟨.inl rfl, trivial⟩⟩⟩⟩ ?_
                  have e0 : (gUp (gUp (gUp σ46 133 111 ((σv 133 111) + 1)) 133 113 ((σv 133 113) + 1)) 133 114 ((σv 133 114) + 1)) 133 111 = (σv 133 111) + 1 := rfl
                  have e1 : (gUp (gUp (gUp σ46 133 111 ((σv 133 111) + 1)) 133 113 ((σv 133 113) + 1)) 133 114 ((σv 133 114) + 1)) 133 112 = σ46 133 112 := rfl
                  have e2 : (gUp (gUp (gUp σ46 133 111 ((σv 133 111) + 1)) 133 113 ((σv 133 113) + 1)) 133 114 ((σv 133 114) + 1)) 133 113 = (σv 133 113) + 1 := rfl
                  have e3 : (gUp (gUp (gUp σ46 133 111 ((σv 133 111) + 1)) 133 113 ((σv 133 113) + 1)) 133 114 ((σv 133 114) + 1)) 133 114 = (σv 133 114) + 1 := rfl
                  have k0 : σ46 133 111 = σv 133 111 := hk_46.rd rfl
                  have k1 : σ46 133 112 = σv 133 112 := hk_46.rd rfl
                  have k2 : σ46 133 113 = σv 133 113 := hk_46.rd rfl
                  have k3 : σ46 133 114 = σv 133 114 := hk_46.rd rfl
                  have t0 : TLn σ0 t 0 (i + 1).toNat = TLn σ0 t 0 i.toNat ∧ ¬ tlP σ0 t 0 i ∨ TLn σ0 t 0 (i + 1).toNat = TLn σ0 t 0 i.toNat + 1 ∧ tlP σ0 t 0 i := by
                    by_cases c : tlP σ0 t 0 i
                    · exact Or.inr ⟨TL_t h0 c, c⟩
                    · exact Or.inl ⟨TL_f h0 c, c⟩
                  have t1 : TLn σ0 t 1 (i + 1).toNat = TLn σ0 t 1 i.toNat ∧ ¬ tlP σ0 t 1 i ∨ TLn σ0 t 1 (i + 1).toNat = TLn σ0 t 1 i.toNat + 1 ∧ tlP σ0 t 1 i := by
                    by_cases c : tlP σ0 t 1 i
                    · exact Or.inr ⟨TL_t h0 c, c⟩
                    · exact Or.inl ⟨TL_f h0 c, c⟩
                  have t2 : TLn σ0 t 2 (i + 1).toNat = TLn σ0 t 2 i.toNat ∧ ¬ tlP σ0 t 2 i ∨ TLn σ0 t 2 (i + 1).toNat = TLn σ0 t 2 i.toNat + 1 ∧ tlP σ0 t 2 i := by
                    by_cases c : tlP σ0 t 2 i
                    · exact Or.inr ⟨TL_t h0 c, c⟩
                    · exact Or.inl ⟨TL_f h0 c, c⟩
                  have t3 : TLn σ0 t 3 (i + 1).toNat = TLn σ0 t 3 i.toNat ∧ ¬ tlP σ0 t 3 i ∨ TLn σ0 t 3 (i + 1).toNat = TLn σ0 t 3 i.toNat + 1 ∧ tlP σ0 t 3 i := by
                    by_cases c : tlP σ0 t 3 i
                    · exact Or.inr ⟨TL_t h0 c, c⟩
                    · exact Or.inl ⟨TL_f h0 c, c⟩
                  have qb : QM σ0 (gUp (gUp (gUp σ46 133 111 ((σv 133 111) + 1)) 133 113 ((σv 133 113) + 1)) 133 114 ((σv 133 114) + 1)) := (QM.up (k := 133) (i := 114) (v := ((σv 133 114) + 1)) (QM.up (k := 133) (i := 113) (v := ((σv 133 113) + 1)) (QM.up (k := 133) (i := 111) (v := ((σv 133 111) + 1)) hq_46 (by decide) (fun h => h)) (by decide) (fun h => h)) (by decide) (fun h => h))
                  exact ih_22 _ (by omega) (i + 1) (gUp (gUp (gUp σ46 133 111 ((σv 133 111) + 1)) 133 113 ((σv 133 113) + 1)) 133 114 ((σv 133 114) + 1)) rfl (by omega) (by omega) (by omega) (by omega) (by omega) (by omega) (by exact qb) (by first | exact hx0 | exact (hk_46.rd (k := 133) (i := 0) rfl).trans hx0) (by first | exact hx8 | exact (funext fun i => hk_46.rd (k := 208) (i := i) rfl).trans hx8)
          · skip
            refine w_aload_n (pc' := 70) (i := 0) (by rfl) (by rfl) dX12_countVotes_69 rfl ?_
            refine w_dup (pc' := 71) dX12_countVotes_70 rfl ?_
            refine v_getI (pc' := 74) (ji := 112) rfl fg_X12_589 kd_133 dX12_countVotes_71 rfl ?_
            show Wp _ _ _ _ _ _ [gI (σ46 133 112), gR 133]
            rw [(hk_46).rd (k := 133) (i := 112) rfl]
            refine w_iconst (pc' := 75) (by decide) dX12_countVotes_74 rfl ?_
            refine v_iadd (pc' := 76) (by (first | omega | (have := hrow (by omega); omega))) dX12_countVotes_75 rfl ?_
            refine v_putI (pc' := 79) (ji := 112) rfl fp_X12_589 kd_133 sf_X12_112 dX12_countVotes_76 rfl ?_
            refine w_iload_n (pc' := 80) (i := 3) (by rfl) (by rfl) dX12_countVotes_79 rfl ?_
            refine w_if_eq (pc' := 83) (t := 93) dX12_countVotes_80 rfl rfl (fun c_80 => ?_) (fun c_80 => ?_)
            · skip
              refine w_iload_n (pc' := 94) (i := 3) (by rfl) (by rfl) dX12_countVotes_93 rfl ?_
              refine w_if_eq (pc' := 97) (t := 116) dX12_countVotes_94 rfl rfl (fun c_94 => ?_) (fun c_94 => ?_)
              · skip
                refine v_iinc (pc' := 119) (x := i) (ls' := [gR 133, gI t, gI (i + 1), gI (vW σ0 t i)]) (by (first | omega | (have := hrow (by omega); omega))) (by decide) (by rfl) (by rfl) dX12_countVotes_116 rfl ?_
                refine w_goto (pc' := 22) dX12_countVotes_119 rfl ?_
                refine Wp.lose (ls' := [gR 133, gI t, gI (i + 1), gX 1]) ⟨.inr rfl, ⟨.inr rfl, ⟨.inr rfl, ⟨.inl rfl, trivial⟩⟩⟩⟩ ?_
                have e0 : (gUp (gUp σ46 133 111 ((σv 133 111) + 1)) 133 112 ((σv 133 112) + 1)) 133 111 = (σv 133 111) + 1 := rfl
                have e1 : (gUp (gUp σ46 133 111 ((σv 133 111) + 1)) 133 112 ((σv 133 112) + 1)) 133 112 = (σv 133 112) + 1 := rfl
                have e2 : (gUp (gUp σ46 133 111 ((σv 133 111) + 1)) 133 112 ((σv 133 112) + 1)) 133 113 = σ46 133 113 := rfl
                have e3 : (gUp (gUp σ46 133 111 ((σv 133 111) + 1)) 133 112 ((σv 133 112) + 1)) 133 114 = σ46 133 114 := rfl
                have k0 : σ46 133 111 = σv 133 111 := hk_46.rd rfl
                have k1 : σ46 133 112 = σv 133 112 := hk_46.rd rfl
                have k2 : σ46 133 113 = σv 133 113 := hk_46.rd rfl
                have k3 : σ46 133 114 = σv 133 114 := hk_46.rd rfl
                have t0 : TLn σ0 t 0 (i + 1).toNat = TLn σ0 t 0 i.toNat ∧ ¬ tlP σ0 t 0 i ∨ TLn σ0 t 0 (i + 1).toNat = TLn σ0 t 0 i.toNat + 1 ∧ tlP σ0 t 0 i := by
                  by_cases c : tlP σ0 t 0 i
                  · exact Or.inr ⟨TL_t h0 c, c⟩
                  · exact Or.inl ⟨TL_f h0 c, c⟩
                have t1 : TLn σ0 t 1 (i + 1).toNat = TLn σ0 t 1 i.toNat ∧ ¬ tlP σ0 t 1 i ∨ TLn σ0 t 1 (i + 1).toNat = TLn σ0 t 1 i.toNat + 1 ∧ tlP σ0 t 1 i := by
                  by_cases c : tlP σ0 t 1 i
                  · exact Or.inr ⟨TL_t h0 c, c⟩
                  · exact Or.inl ⟨TL_f h0 c, c⟩
                have t2 : TLn σ0 t 2 (i + 1).toNat = TLn σ0 t 2 i.toNat ∧ ¬ tlP σ0 t 2 i ∨ TLn σ0 t 2 (i + 1).toNat = TLn σ0 t 2 i.toNat + 1 ∧ tlP σ0 t 2 i := by
                  by_cases c : tlP σ0 t 2 i
                  · exact Or.inr ⟨TL_t h0 c, c⟩
                  · exact Or.inl ⟨TL_f h0 c, c⟩
                have t3 : TLn σ0 t 3 (i + 1).toNat = TLn σ0 t 3 i.toNat ∧ ¬ tlP σ0 t 3 i ∨ TLn σ0 t 3 (i + 1).toNat = TLn σ0 t 3 i.toNat + 1 ∧ tlP σ0 t 3 i := by
                  by_cases c : tlP σ0 t 3 i
                  · exact Or.inr ⟨TL_t h0 c, c⟩
                  · exact Or.inl ⟨TL_f h0 c, c⟩
                have qb : QM σ0 (gUp (gUp σ46 133 111 ((σv 133 111) + 1)) 133 112 ((σv 133 112) + 1)) := (QM.up (k := 133) (i := 112) (v := ((σv 133 112) + 1)) (QM.up (k := 133) (i := 111) (v := ((σv 133 111) + 1)) hq_46 (by decide) (fun h => h)) (by decide) (fun h => h))
                exact ih_22 _ (by omega) (i + 1) (gUp (gUp σ46 133 111 ((σv 133 111) + 1)) 133 112 ((σv 133 112) + 1)) rfl (by omega) (by omega) (by omega) (by omega) (by omega) (by omega) (by exact qb) (by first | exact hx0 | exact (hk_46.rd (k := 133) (i := 0) rfl).trans hx0) (by first | exact hx8 | exact (funext fun i => hk_46.rd (k := 208) (i := i) rfl).trans hx8)
              · skip
                refine w_aload_n (pc' := 98) (i := 0) (by rfl) (by rfl) dX12_countVotes_97 rfl ?_
                refine w_getS (pc' := 101) (q := 206) fg_X12_238 kd_133 sf_X12_109 gr_133_109 dX12_countVotes_98 rfl ?_
                refine w_iload_n (pc' := 102) (i := 2) (by rfl) (by rfl) dX12_countVotes_101 rfl ?_
                refine w_zald (pc' := 103) kd_206 (by (first | omega | (have := hrow (by omega); omega))) (by (first | omega | (have := hrow (by omega); omega))) dX12_countVotes_102 rfl (fun z_102 => ?_)
                show Wp _ _ _ _ _ _ [gI (σ46 206 i)]
                rw [(hq_46).rd (k := 206) (i := i) (.inr rfl)]
                rw [hI.e206 (i := i) (by (first | omega | (have := hrow (by omega); omega))) (by (first | omega | (have := hrow (by omega); omega)))]
                refine w_if_eq (pc' := 106) (t := 116) dX12_countVotes_103 rfl rfl (fun c_103 => ?_) (fun c_103 => ?_)
                · skip
                  refine v_iinc (pc' := 119) (x := i) (ls' := [gR 133, gI t, gI (i + 1), gI (vW σ0 t i)]) (by (first | omega | (have := hrow (by omega); omega))) (by decide) (by rfl) (by rfl) dX12_countVotes_116 rfl ?_
                  refine w_goto (pc' := 22) dX12_countVotes_119 rfl ?_
                  refine Wp.lose (ls' := [gR 133, gI t, gI (i + 1), gX 1]) ⟨.inr rfl, ⟨.inr rfl, ⟨.inr rfl, ⟨.inl rfl, trivial⟩⟩⟩⟩ ?_
                  have e0 : (gUp (gUp σ46 133 111 ((σv 133 111) + 1)) 133 112 ((σv 133 112) + 1)) 133 111 = (σv 133 111) + 1 := rfl
                  have e1 : (gUp (gUp σ46 133 111 ((σv 133 111) + 1)) 133 112 ((σv 133 112) + 1)) 133 112 = (σv 133 112) + 1 := rfl
                  have e2 : (gUp (gUp σ46 133 111 ((σv 133 111) + 1)) 133 112 ((σv 133 112) + 1)) 133 113 = σ46 133 113 := rfl
                  have e3 : (gUp (gUp σ46 133 111 ((σv 133 111) + 1)) 133 112 ((σv 133 112) + 1)) 133 114 = σ46 133 114 := rfl
                  have k0 : σ46 133 111 = σv 133 111 := hk_46.rd rfl
                  have k1 : σ46 133 112 = σv 133 112 := hk_46.rd rfl
                  have k2 : σ46 133 113 = σv 133 113 := hk_46.rd rfl
                  have k3 : σ46 133 114 = σv 133 114 := hk_46.rd rfl
                  have t0 : TLn σ0 t 0 (i + 1).toNat = TLn σ0 t 0 i.toNat ∧ ¬ tlP σ0 t 0 i ∨ TLn σ0 t 0 (i + 1).toNat = TLn σ0 t 0 i.toNat + 1 ∧ tlP σ0 t 0 i := by
                    by_cases c : tlP σ0 t 0 i
                    · exact Or.inr ⟨TL_t h0 c, c⟩
                    · exact Or.inl ⟨TL_f h0 c, c⟩
                  have t1 : TLn σ0 t 1 (i + 1).toNat = TLn σ0 t 1 i.toNat ∧ ¬ tlP σ0 t 1 i ∨ TLn σ0 t 1 (i + 1).toNat = TLn σ0 t 1 i.toNat + 1 ∧ tlP σ0 t 1 i := by
                    by_cases c : tlP σ0 t 1 i
                    · exact Or.inr ⟨TL_t h0 c, c⟩
                    · exact Or.inl ⟨TL_f h0 c, c⟩
                  have t2 : TLn σ0 t 2 (i + 1).toNat = TLn σ0 t 2 i.toNat ∧ ¬ tlP σ0 t 2 i ∨ TLn σ0 t 2 (i + 1).toNat = TLn σ0 t 2 i.toNat + 1 ∧ tlP σ0 t 2 i := by
                    by_cases c : tlP σ0 t 2 i
                    · exact Or.inr ⟨TL_t h0 c, c⟩
                    · exact Or.inl ⟨TL_f h0 c, c⟩
                  have t3 : TLn σ0 t 3 (i + 1).toNat = TLn σ0 t 3 i.toNat ∧ ¬ tlP σ0 t 3 i ∨ TLn σ0 t 3 (i + 1).toNat = TLn σ0 t 3 i.toNat + 1 ∧ tlP σ0 t 3 i := by
                    by_cases c : tlP σ0 t 3 i
                    · exact Or.inr ⟨TL_t h0 c, c⟩
                    · exact Or.inl ⟨TL_f h0 c, c⟩
                  have qb : QM σ0 (gUp (gUp σ46 133 111 ((σv 133 111) + 1)) 133 112 ((σv 133 112) + 1)) := (QM.up (k := 133) (i := 112) (v := ((σv 133 112) + 1)) (QM.up (k := 133) (i := 111) (v := ((σv 133 111) + 1)) hq_46 (by decide) (fun h => h)) (by decide) (fun h => h))
                  exact ih_22 _ (by omega) (i + 1) (gUp (gUp σ46 133 111 ((σv 133 111) + 1)) 133 112 ((σv 133 112) + 1)) rfl (by omega) (by omega) (by omega) (by omega) (by omega) (by omega) (by exact qb) (by first | exact hx0 | exact (hk_46.rd (k := 133) (i := 0) rfl).trans hx0) (by first | exact hx8 | exact (funext fun i => hk_46.rd (k := 208) (i := i) rfl).trans hx8)
                · skip
                  refine w_aload_n (pc' := 107) (i := 0) (by rfl) (by rfl) dX12_countVotes_106 rfl ?_
                  refine w_dup (pc' := 108) dX12_countVotes_107 rfl ?_
                  refine v_getI (pc' := 111) (ji := 114) rfl fg_X12_595 kd_133 dX12_countVotes_108 rfl ?_
                  show Wp _ _ _ _ _ _ [gI (σ46 133 114), gR 133]
                  rw [(hk_46).rd (k := 133) (i := 114) rfl]
                  refine w_iconst (pc' := 112) (by decide) dX12_countVotes_111 rfl ?_
                  refine v_iadd (pc' := 113) (by (first | omega | (have := hrow (by omega); omega))) dX12_countVotes_112 rfl ?_
                  refine v_putI (pc' := 116) (ji := 114) rfl fp_X12_595 kd_133 sf_X12_114 dX12_countVotes_113 rfl ?_
                  refine v_iinc (pc' := 119) (x := i) (ls' := [gR 133, gI t, gI (i + 1), gI (vW σ0 t i)]) (by (first | omega | (have := hrow (by omega); omega))) (by decide) (by rfl) (by rfl) dX12_countVotes_116 rfl ?_
                  refine w_goto (pc' := 22) dX12_countVotes_119 rfl ?_
                  refine Wp.lose (ls' := [gR 133, gI t, gI (i + 1), gX 1]) ⟨.inr rfl, ⟨.inr rfl, ⟨.inr rfl, ⟨.inl rfl, trivial⟩⟩⟩⟩ ?_
                  have e0 : (gUp (gUp (gUp σ46 133 111 ((σv 133 111) + 1)) 133 112 ((σv 133 112) + 1)) 133 114 ((σv 133 114) + 1)) 133 111 = (σv 133 111) + 1 := rfl
                  have e1 : (gUp (gUp (gUp σ46 133 111 ((σv 133 111) + 1)) 133 112 ((σv 133 112) + 1)) 133 114 ((σv 133 114) + 1)) 133 112 = (σv 133 112) + 1 := rfl
                  have e2 : (gUp (gUp (gUp σ46 133 111 ((σv 133 111) + 1)) 133 112 ((σv 133 112) + 1)) 133 114 ((σv 133 114) + 1)) 133 113 = σ46 133 113 := rfl
                  have e3 : (gUp (gUp (gUp σ46 133 111 ((σv 133 111) + 1)) 133 112 ((σv 133 112) + 1)) 133 114 ((σv 133 114) + 1)) 133 114 = (σv 133 114) + 1 := rfl
                  have k0 : σ46 133 111 = σv 133 111 := hk_46.rd rfl
                  have k1 : σ46 133 112 = σv 133 112 := hk_46.rd rfl
                  have k2 : σ46 133 113 = σv 133 113 := hk_46.rd rfl
                  have k3 : σ46 133 114 = σv 133 114 := hk_46.rd rfl
                  have t0 : TLn σ0 t 0 (i + 1).toNat = TLn σ0 t 0 i.toNat ∧ ¬ tlP σ0 t 0 i ∨ TLn σ0 t 0 (i + 1).toNat = TLn σ0 t 0 i.toNat + 1 ∧ tlP σ0 t 0 i := by
                    by_cases c : tlP σ0 t 0 i
                    · exact Or.inr ⟨TL_t h0 c, c⟩
                    · exact Or.inl ⟨TL_f h0 c, c⟩
                  have t1 : TLn σ0 t 1 (i + 1).toNat = TLn σ0 t 1 i.toNat ∧ ¬ tlP σ0 t 1 i ∨ TLn σ0 t 1 (i + 1).toNat = TLn σ0 t 1 i.toNat + 1 ∧ tlP σ0 t 1 i := by
                    by_cases c : tlP σ0 t 1 i
                    · exact Or.inr ⟨TL_t h0 c, c⟩
                    · exact Or.inl ⟨TL_f h0 c, c⟩
                  have t2 : TLn σ0 t 2 (i + 1).toNat = TLn σ0 t 2 i.toNat ∧ ¬ tlP σ0 t 2 i ∨ TLn σ0 t 2 (i + 1).toNat = TLn σ0 t 2 i.toNat + 1 ∧ tlP σ0 t 2 i := by
                    by_cases c : tlP σ0 t 2 i
                    · exact Or.inr ⟨TL_t h0 c, c⟩
                    · exact Or.inl ⟨TL_f h0 c, c⟩
                  have t3 : TLn σ0 t 3 (i + 1).toNat = TLn σ0 t 3 i.toNat ∧ ¬ tlP σ0 t 3 i ∨ TLn σ0 t 3 (i + 1).toNat = TLn σ0 t 3 i.toNat + 1 ∧ tlP σ0 t 3 i := by
                    by_cases c : tlP σ0 t 3 i
                    · exact Or.inr ⟨TL_t h0 c, c⟩
                    · exact Or.inl ⟨TL_f h0 c, c⟩
                  have qb : QM σ0 (gUp (gUp (gUp σ46 133 111 ((σv 133 111) + 1)) 133 112 ((σv 133 112) + 1)) 133 114 ((σv 133 114) + 1)) := (QM.up (k := 133) (i := 114) (v := ((σv 133 114) + 1)) (QM.up (k := 133) (i := 112) (v := ((σv 133 112) + 1)) (QM.up (k := 133) (i := 111) (v := ((σv 133 111) + 1)) hq_46 (by decide) (fun h => h)) (by decide) (fun h => h)) (by decide) (fun h => h))
                  exact ih_22 _ (by omega) (i + 1) (gUp (gUp (gUp σ46 133 111 ((σv 133 111) + 1)) 133 112 ((σv 133 112) + 1)) 133 114 ((σv 133 114) + 1)) rfl (by omega) (by omega) (by omega) (by omega) (by omega) (by omega) (by exact qb) (by first | exact hx0 | exact (hk_46.rd (k := 133) (i := 0) rfl).trans hx0) (by first | exact hx8 | exact (funext fun i => hk_46.rd (k := 208) (i := i) rfl).trans hx8)
            · skip
              refine w_aload_n (pc' := 84) (i := 0) (by rfl) (by rfl) dX12_countVotes_83 rfl ?_
              refine w_dup (pc' := 85) dX12_countVotes_84 rfl ?_
              refine v_getI (pc' := 88) (ji := 113) rfl fg_X12_592 kd_133 dX12_countVotes_85 rfl ?_
              show Wp _ _ _ _ _ _ [gI (σ46 133 113), gR 133]
              rw [(hk_46).rd (k := 133) (i := 113) rfl]
              refine w_iconst (pc' := 89) (by decide) dX12_countVotes_88 rfl ?_
              refine v_iadd (pc' := 90) (by (first | omega | (have := hrow (by omega); omega))) dX12_countVotes_89 rfl ?_
              refine v_putI (pc' := 93) (ji := 113) rfl fp_X12_592 kd_133 sf_X12_113 dX12_countVotes_90 rfl ?_
              refine w_iload_n (pc' := 94) (i := 3) (by rfl) (by rfl) dX12_countVotes_93 rfl ?_
              refine w_if_eq (pc' := 97) (t := 116) dX12_countVotes_94 rfl rfl (fun c_94 => ?_) (fun c_94 => ?_)
              · skip
                refine v_iinc (pc' := 119) (x := i) (ls' := [gR 133, gI t, gI (i + 1), gI (vW σ0 t i)]) (by (first | omega | (have := hrow (by omega); omega))) (by decide) (by rfl) (by rfl) dX12_countVotes_116 rfl ?_
                refine w_goto (pc' := 22) dX12_countVotes_119 rfl ?_
                refine Wp.lose (ls' := [gR 133, gI t, gI (i + 1), gX 1]) ⟨.inr rfl, ⟨.inr rfl, ⟨.inr rfl, ⟨.inl rfl, trivial⟩⟩⟩⟩ ?_
                have e0 : (gUp (gUp (gUp σ46 133 111 ((σv 133 111) + 1)) 133 112 ((σv 133 112) + 1)) 133 113 ((σv 133 113) + 1)) 133 111 = (σv 133 111) + 1 := rfl
                have e1 : (gUp (gUp (gUp σ46 133 111 ((σv 133 111) + 1)) 133 112 ((σv 133 112) + 1)) 133 113 ((σv 133 113) + 1)) 133 112 = (σv 133 112) + 1 := rfl
                have e2 : (gUp (gUp (gUp σ46 133 111 ((σv 133 111) + 1)) 133 112 ((σv 133 112) + 1)) 133 113 ((σv 133 113) + 1)) 133 113 = (σv 133 113) + 1 := rfl
                have e3 : (gUp (gUp (gUp σ46 133 111 ((σv 133 111) + 1)) 133 112 ((σv 133 112) + 1)) 133 113 ((σv 133 113) + 1)) 133 114 = σ46 133 114 := rfl
                have k0 : σ46 133 111 = σv 133 111 := hk_46.rd rfl
                have k1 : σ46 133 112 = σv 133 112 := hk_46.rd rfl
                have k2 : σ46 133 113 = σv 133 113 := hk_46.rd rfl
                have k3 : σ46 133 114 = σv 133 114 := hk_46.rd rfl
                have t0 : TLn σ0 t 0 (i + 1).toNat = TLn σ0 t 0 i.toNat ∧ ¬ tlP σ0 t 0 i ∨ TLn σ0 t 0 (i + 1).toNat = TLn σ0 t 0 i.toNat + 1 ∧ tlP σ0 t 0 i := by
                  by_cases c : tlP σ0 t 0 i
                  · exact Or.inr ⟨TL_t h0 c, c⟩
                  · exact Or.inl ⟨TL_f h0 c, c⟩
                have t1 : TLn σ0 t 1 (i + 1).toNat = TLn σ0 t 1 i.toNat ∧ ¬ tlP σ0 t 1 i ∨ TLn σ0 t 1 (i + 1).toNat = TLn σ0 t 1 i.toNat + 1 ∧ tlP σ0 t 1 i := by
                  by_cases c : tlP σ0 t 1 i
                  · exact Or.inr ⟨TL_t h0 c, c⟩
                  · exact Or.inl ⟨TL_f h0 c, c⟩
                have t2 : TLn σ0 t 2 (i + 1).toNat = TLn σ0 t 2 i.toNat ∧ ¬ tlP σ0 t 2 i ∨ TLn σ0 t 2 (i + 1).toNat = TLn σ0 t 2 i.toNat + 1 ∧ tlP σ0 t 2 i := by
                  by_cases c : tlP σ0 t 2 i
                  · exact Or.inr ⟨TL_t h0 c, c⟩
                  · exact Or.inl ⟨TL_f h0 c, c⟩
                have t3 : TLn σ0 t 3 (i + 1).toNat = TLn σ0 t 3 i.toNat ∧ ¬ tlP σ0 t 3 i ∨ TLn σ0 t 3 (i + 1).toNat = TLn σ0 t 3 i.toNat + 1 ∧ tlP σ0 t 3 i := by
                  by_cases c : tlP σ0 t 3 i
                  · exact Or.inr ⟨TL_t h0 c, c⟩
                  · exact Or.inl ⟨TL_f h0 c, c⟩
                have qb : QM σ0 (gUp (gUp (gUp σ46 133 111 ((σv 133 111) + 1)) 133 112 ((σv 133 112) + 1)) 133 113 ((σv 133 113) + 1)) := (QM.up (k := 133) (i := 113) (v := ((σv 133 113) + 1)) (QM.up (k := 133) (i := 112) (v := ((σv 133 112) + 1)) (QM.up (k := 133) (i := 111) (v := ((σv 133 111) + 1)) hq_46 (by decide) (fun h => h)) (by decide) (fun h => h)) (by decide) (fun h => h))
                exact ih_22 _ (by omega) (i + 1) (gUp (gUp (gUp σ46 133 111 ((σv 133 111) + 1)) 133 112 ((σv 133 112) + 1)) 133 113 ((σv 133 113) + 1)) rfl (by omega) (by omega) (by omega) (by omega) (by omega) (by omega) (by exact qb) (by first | exact hx0 | exact (hk_46.rd (k := 133) (i := 0) rfl).trans hx0) (by first | exact hx8 | exact (funext fun i => hk_46.rd (k := 208) (i := i) rfl).trans hx8)
              · skip
                refine w_aload_n (pc' := 98) (i := 0) (by rfl) (by rfl) dX12_countVotes_97 rfl ?_
                refine w_getS (pc' := 101) (q := 206) fg_X12_238 kd_133 sf_X12_109 gr_133_109 dX12_countVotes_98 rfl ?_
                refine w_iload_n (pc' := 102) (i := 2) (by rfl) (by rfl) dX12_countVotes_101 rfl ?_
                refine w_zald (pc' := 103) kd_206 (by (first | omega | (have := hrow (by omega); omega))) (by (first | omega | (have := hrow (by omega); omega))) dX12_countVotes_102 rfl (fun z_102 => ?_)
                show Wp _ _ _ _ _ _ [gI (σ46 206 i)]
                rw [(hq_46).rd (k := 206) (i := i) (.inr rfl)]
                rw [hI.e206 (i := i) (by (first | omega | (have := hrow (by omega); omega))) (by (first | omega | (have := hrow (by omega); omega)))]
                refine w_if_eq (pc' := 106) (t := 116) dX12_countVotes_103 rfl rfl (fun c_103 => ?_) (fun c_103 => ?_)
                · skip
                  refine v_iinc (pc' := 119) (x := i) (ls' := [gR 133, gI t, gI (i + 1), gI (vW σ0 t i)]) (by (first | omega | (have := hrow (by omega); omega))) (by decide) (by rfl) (by rfl) dX12_countVotes_116 rfl ?_
                  refine w_goto (pc' := 22) dX12_countVotes_119 rfl ?_
                  refine Wp.lose (ls' := [gR 133, gI t, gI (i + 1), gX 1]) ⟨.inr rfl, ⟨.inr rfl, ⟨.inr rfl, ⟨.inl rfl, trivial⟩⟩⟩⟩ ?_
                  have e0 : (gUp (gUp (gUp σ46 133 111 ((σv 133 111) + 1)) 133 112 ((σv 133 112) + 1)) 133 113 ((σv 133 113) + 1)) 133 111 = (σv 133 111) + 1 := rfl
                  have e1 : (gUp (gUp (gUp σ46 133 111 ((σv 133 111) + 1)) 133 112 ((σv 133 112) + 1)) 133 113 ((σv 133 113) + 1)) 133 112 = (σv 133 112) + 1 := rfl
                  have e2 : (gUp (gUp (gUp σ46 133 111 ((σv 133 111) + 1)) 133 112 ((σv 133 112) + 1)) 133 113 ((σv 133 113) + 1)) 133 113 = (σv 133 113) + 1 := rfl
                  have e3 : (gUp (gUp (gUp σ46 133 111 ((σv 133 111) + 1)) 133 112 ((σv 133 112) + 1)) 133 113 ((σv 133 113) + 1)) 133 114 = σ46 133 114 := rfl
                  have k0 : σ46 133 111 = σv 133 111 := hk_46.rd rfl
                  have k1 : σ46 133 112 = σv 133 112 := hk_46.rd rfl
                  have k2 : σ46 133 113 = σv 133 113 := hk_46.rd rfl
                  have k3 : σ46 133 114 = σv 133 114 := hk_46.rd rfl
                  have t0 : TLn σ0 t 0 (i + 1).toNat = TLn σ0 t 0 i.toNat ∧ ¬ tlP σ0 t 0 i ∨ TLn σ0 t 0 (i + 1).toNat = TLn σ0 t 0 i.toNat + 1 ∧ tlP σ0 t 0 i := by
                    by_cases c : tlP σ0 t 0 i
                    · exact Or.inr ⟨TL_t h0 c, c⟩
                    · exact Or.inl ⟨TL_f h0 c, c⟩
                  have t1 : TLn σ0 t 1 (i + 1).toNat = TLn σ0 t 1 i.toNat ∧ ¬ tlP σ0 t 1 i ∨ TLn σ0 t 1 (i + 1).toNat = TLn σ0 t 1 i.toNat + 1 ∧ tlP σ0 t 1 i := by
                    by_cases c : tlP σ0 t 1 i
                    · exact Or.inr ⟨TL_t h0 c, c⟩
                    · exact Or.inl ⟨TL_f h0 c, c⟩
                  have t2 : TLn σ0 t 2 (i + 1).toNat = TLn σ0 t 2 i.toNat ∧ ¬ tlP σ0 t 2 i ∨ TLn σ0 t 2 (i + 1).toNat = TLn σ0 t 2 i.toNat + 1 ∧ tlP σ0 t 2 i := by
                    by_cases c : tlP σ0 t 2 i
                    · exact Or.inr ⟨TL_t h0 c, c⟩
                    · exact Or.inl ⟨TL_f h0 c, c⟩
                  have t3 : TLn σ0 t 3 (i + 1).toNat = TLn σ0 t 3 i.toNat ∧ ¬ tlP σ0 t 3 i ∨ TLn σ0 t 3 (i + 1).toNat = TLn σ0 t 3 i.toNat + 1 ∧ tlP σ0 t 3 i := by
                    by_cases c : tlP σ0 t 3 i
                    · exact Or.inr ⟨TL_t h0 c, c⟩
                    · exact Or.inl ⟨TL_f h0 c, c⟩
                  have qb : QM σ0 (gUp (gUp (gUp σ46 133 111 ((σv 133 111) + 1)) 133 112 ((σv 133 112) + 1)) 133 113 ((σv 133 113) + 1)) := (QM.up (k := 133) (i := 113) (v := ((σv 133 113) + 1)) (QM.up (k := 133) (i := 112) (v := ((σv 133 112) + 1)) (QM.up (k := 133) (i := 111) (v := ((σv 133 111) + 1)) hq_46 (by decide) (fun h => h)) (by decide) (fun h => h)) (by decide) (fun h => h))
                  exact ih_22 _ (by omega) (i + 1) (gUp (gUp (gUp σ46 133 111 ((σv 133 111) + 1)) 133 112 ((σv 133 112) + 1)) 133 113 ((σv 133 113) + 1)) rfl (by omega) (by omega) (by omega) (by omega) (by omega) (by omega) (by exact qb) (by first | exact hx0 | exact (hk_46.rd (k := 133) (i := 0) rfl).trans hx0) (by first | exact hx8 | exact (funext fun i => hk_46.rd (k := 208) (i := i) rfl).trans hx8)
                · skip
                  refine w_aload_n (pc' := 107) (i := 0) (by rfl) (by rfl) dX12_countVotes_106 rfl ?_
                  refine w_dup (pc' := 108) dX12_countVotes_107 rfl ?_
                  refine v_getI (pc' := 111) (ji := 114) rfl fg_X12_595 kd_133 dX12_countVotes_108 rfl ?_
                  show Wp _ _ _ _ _ _ [gI (σ46 133 114), gR 133]
                  rw [(hk_46).rd (k := 133) (i := 114) rfl]
                  refine w_iconst (pc' := 112) (by decide) dX12_countVotes_111 rfl ?_
                  refine v_iadd (pc' := 113) (by (first | omega | (have := hrow (by omega); omega))) dX12_countVotes_112 rfl ?_
                  refine v_putI (pc' := 116) (ji := 114) rfl fp_X12_595 kd_133 sf_X12_114 dX12_countVotes_113 rfl ?_
                  refine v_iinc (pc' := 119) (x := i) (ls' := [gR 133, gI t, gI (i + 1), gI (vW σ0 t i)]) (by (first | omega | (have := hrow (by omega); omega))) (by decide) (by rfl) (by rfl) dX12_countVotes_116 rfl ?_
                  refine w_goto (pc' := 22) dX12_countVotes_119 rfl ?_
                  refine Wp.lose (ls' := [gR 133, gI t, gI (i + 1), gX 1]) ⟨.inr rfl, ⟨.inr rfl, ⟨.inr rfl, ⟨.inl rfl, trivial⟩⟩⟩⟩ ?_
                  have e0 : (gUp (gUp (gUp (gUp σ46 133 111 ((σv 133 111) + 1)) 133 112 ((σv 133 112) + 1)) 133 113 ((σv 133 113) + 1)) 133 114 ((σv 133 114) + 1)) 133 111 = (σv 133 111) + 1 := rfl
                  have e1 : (gUp (gUp (gUp (gUp σ46 133 111 ((σv 133 111) + 1)) 133 112 ((σv 133 112) + 1)) 133 113 ((σv 133 113) + 1)) 133 114 ((σv 133 114) + 1)) 133 112 = (σv 133 112) + 1 := rfl
                  have e2 : (gUp (gUp (gUp (gUp σ46 133 111 ((σv 133 111) + 1)) 133 112 ((σv 133 112) + 1)) 133 113 ((σv 133 113) + 1)) 133 114 ((σv 133 114) + 1)) 133 113 = (σv 133 113) + 1 := rfl
                  have e3 : (gUp (gUp (gUp (gUp σ46 133 111 ((σv 133 111) + 1)) 133 112 ((σv 133 112) + 1)) 133 113 ((σv 133 113) + 1)) 133 114 ((σv 133 114) + 1)) 133 114 = (σv 133 114) + 1 := rfl
                  have k0 : σ46 133 111 = σv 133 111 := hk_46.rd rfl
                  have k1 : σ46 133 112 = σv 133 112 := hk_46.rd rfl
                  have k2 : σ46 133 113 = σv 133 113 := hk_46.rd rfl
                  have k3 : σ46 133 114 = σv 133 114 := hk_46.rd rfl
                  have t0 : TLn σ0 t 0 (i + 1).toNat = TLn σ0 t 0 i.toNat ∧ ¬ tlP σ0 t 0 i ∨ TLn σ0 t 0 (i + 1).toNat = TLn σ0 t 0 i.toNat + 1 ∧ tlP σ0 t 0 i := by
                    by_cases c : tlP σ0 t 0 i
                    · exact Or.inr ⟨TL_t h0 c, c⟩
                    · exact Or.inl ⟨TL_f h0 c, c⟩
                  have t1 : TLn σ0 t 1 (i + 1).toNat = TLn σ0 t 1 i.toNat ∧ ¬ tlP σ0 t 1 i ∨ TLn σ0 t 1 (i + 1).toNat = TLn σ0 t 1 i.toNat + 1 ∧ tlP σ0 t 1 i := by
                    by_cases c : tlP σ0 t 1 i
                    · exact Or.inr ⟨TL_t h0 c, c⟩
                    · exact Or.inl ⟨TL_f h0 c, c⟩
                  have t2 : TLn σ0 t 2 (i + 1).toNat = TLn σ0 t 2 i.toNat ∧ ¬ tlP σ0 t 2 i ∨ TLn σ0 t 2 (i + 1).toNat = TLn σ0 t 2 i.toNat + 1 ∧ tlP σ0 t 2 i := by
                    by_cases c : tlP σ0 t 2 i
                    · exact Or.inr ⟨TL_t h0 c, c⟩
                    · exact Or.inl ⟨TL_f h0 c, c⟩
                  have t3 : TLn σ0 t 3 (i + 1).toNat = TLn σ0 t 3 i.toNat ∧ ¬ tlP σ0 t 3 i ∨ TLn σ0 t 3 (i + 1).toNat = TLn σ0 t 3 i.toNat + 1 ∧ tlP σ0 t 3 i := by
                    by_cases c : tlP σ0 t 3 i
                    · exact Or.inr ⟨TL_t h0 c, c⟩
                    · exact Or.inl ⟨TL_f h0 c, c⟩
                  have qb : QM σ0 (gUp (gUp (gUp (gUp σ46 133 111 ((σv 133 111) + 1)) 133 112 ((σv 133 112) + 1)) 133 113 ((σv 133 113) + 1)) 133 114 ((σv 133 114) + 1)) := (QM.up (k := 133) (i := 114) (v := ((σv 133 114) + 1)) (QM.up (k := 133) (i := 113) (v := ((σv 133 113) + 1)) (QM.up (k := 133) (i := 112) (v := ((σv 133 112) + 1)) (QM.up (k := 133) (i := 111) (v := ((σv 133 111) + 1)) hq_46 (by decide) (fun h => h)) (by decide) (fun h => h)) (by decide) (fun h => h)) (by decide) (fun h => h))
                  exact ih_22 _ (by omega) (i + 1) (gUp (gUp (gUp (gUp σ46 133 111 ((σv 133 111) + 1)) 133 112 ((σv 133 112) + 1)) 133 113 ((σv 133 113) + 1)) 133 114 ((σv 133 114) + 1)) rfl (by omega) (by omega) (by omega) (by omega) (by omega) (by omega) (by exact qb) (by first | exact hx0 | exact (hk_46.rd (k := 133) (i := 0) rfl).trans hx0) (by first | exact hx8 | exact (funext fun i => hk_46.rd (k := 208) (i := i) rfl).trans hx8)
        · skip
          refine w_goto (pc' := 116) dX12_countVotes_40 rfl ?_
          refine v_iinc (pc' := 119) (x := i) (ls' := [gR 133, gI t, gI (i + 1), gX 1]) (by (first | omega | (have := hrow (by omega); omega))) (by decide) (by rfl) (by rfl) dX12_countVotes_116 rfl ?_
          refine w_goto (pc' := 22) dX12_countVotes_119 rfl ?_
          have e0 : (σv) 133 111 = σv 133 111 := rfl
          have e1 : (σv) 133 112 = σv 133 112 := rfl
          have e2 : (σv) 133 113 = σv 133 113 := rfl
          have e3 : (σv) 133 114 = σv 133 114 := rfl
          have t0 : TLn σ0 t 0 (i + 1).toNat = TLn σ0 t 0 i.toNat ∧ ¬ tlP σ0 t 0 i ∨ TLn σ0 t 0 (i + 1).toNat = TLn σ0 t 0 i.toNat + 1 ∧ tlP σ0 t 0 i := by
            by_cases c : tlP σ0 t 0 i
            · exact Or.inr ⟨TL_t h0 c, c⟩
            · exact Or.inl ⟨TL_f h0 c, c⟩
          have t1 : TLn σ0 t 1 (i + 1).toNat = TLn σ0 t 1 i.toNat ∧ ¬ tlP σ0 t 1 i ∨ TLn σ0 t 1 (i + 1).toNat = TLn σ0 t 1 i.toNat + 1 ∧ tlP σ0 t 1 i := by
            by_cases c : tlP σ0 t 1 i
            · exact Or.inr ⟨TL_t h0 c, c⟩
            · exact Or.inl ⟨TL_f h0 c, c⟩
          have t2 : TLn σ0 t 2 (i + 1).toNat = TLn σ0 t 2 i.toNat ∧ ¬ tlP σ0 t 2 i ∨ TLn σ0 t 2 (i + 1).toNat = TLn σ0 t 2 i.toNat + 1 ∧ tlP σ0 t 2 i := by
            by_cases c : tlP σ0 t 2 i
            · exact Or.inr ⟨TL_t h0 c, c⟩
            · exact Or.inl ⟨TL_f h0 c, c⟩
          have t3 : TLn σ0 t 3 (i + 1).toNat = TLn σ0 t 3 i.toNat ∧ ¬ tlP σ0 t 3 i ∨ TLn σ0 t 3 (i + 1).toNat = TLn σ0 t 3 i.toNat + 1 ∧ tlP σ0 t 3 i := by
            by_cases c : tlP σ0 t 3 i
            · exact Or.inr ⟨TL_t h0 c, c⟩
            · exact Or.inl ⟨TL_f h0 c, c⟩
          have qb : QM σ0 (σv) := hqv
          exact ih_22 _ (by omega) (i + 1) σv rfl (by omega) (by omega) (by omega) (by omega) (by omega) (by omega) (by exact qb) (by first | exact hx0 | exact (hk_46.rd (k := 133) (i := 0) rfl).trans hx0) (by first | exact hx8 | exact (funext fun i => hk_46.rd (k := 208) (i := i) rfl).trans hx8)
  exact hl_22 _ 0 (gUp (gUp (gUp (gUp σ 133 111 0) 133 112 0) 133 113 0) 133 114 0) rfl (by omega) (by omega) (by rfl) (by rfl) (by rfl) (by rfl) (by first | exact hq0 | skip) (by rfl) (by rfl)
theorem x_links {σ0 : gH} (hI : Inv σ0) (t w : Int) : Mt mX11_links 30 [gR 0, gI t, gI w] σ0 (fun v σ' => v = gI (if 0 ≤ w ∧ w ≤ 3 then TL σ0 t w else -1) ∧ QC σ0 σ') := by
  refine Mt.walk (ls := [gR 0, gI t, gI w]) pn_X11 rfl (fun _ _ h => by cases h.1) (Nat.le_of_ble_eq_true rfl) rfl ?_
  refine w_iload_n (pc' := 1) (i := 2) (by rfl) (by rfl) dX11_links_0 rfl ?_
  refine w_if_lt (pc' := 4) (t := 9) dX11_links_1 rfl rfl (fun c_1 => ?_) (fun c_1 => ?_)
  · skip
    refine w_iconst (pc' := 10) (by decide) dX11_links_9 rfl ?_
    refine w_goto (pc' := 22) dX11_links_10 rfl ?_
    refine v_ireturn rfl dX11_links_22 ?_
    first
      | exact ⟨by rw [if_pos (by omega)], hq_19⟩
      | exact ⟨by rw [if_neg (by omega)], QC.refl hI⟩
  · skip
    refine w_iload_n (pc' := 5) (i := 2) (by rfl) (by rfl) dX11_links_4 rfl ?_
    refine w_iconst (pc' := 6) (by decide) dX11_links_5 rfl ?_
    refine w_icmp_le (pc' := 9) (t := 13) dX11_links_6 rfl rfl (fun c_6 => ?_) (fun c_6 => ?_)
    · skip
      refine w_aload_n (pc' := 14) (i := 0) (by rfl) (by rfl) dX11_links_13 rfl ?_
      refine w_getS (pc' := 17) (q := 125) fg_X11_85 kd_0 sf_X11_13 gr_0_13 dX11_links_14 rfl ?_
      refine w_iload_n (pc' := 18) (i := 1) (by rfl) (by rfl) dX11_links_17 rfl ?_
      refine w_iload_n (pc' := 19) (i := 2) (by rfl) (by rfl) dX11_links_18 rfl ?_
      refine w_callV (pc' := 22) (d' := 5) (av := [gI t, gI w]) mi_mX1_tallyOf lk_X11_255 rfl ci_X1 kd_125 rfl (Nat.le_of_ble_eq_true rfl) (Nat.le_of_ble_eq_true rfl) dX11_links_19 rfl (k_tallyOf hI (QC.refl hI) t w (by omega)) (fun v_19 σ19 q_19 => ?_)
      obtain ⟨rfl, hq_19, hk_19⟩ := q_19
      show Wp _ _ _ _ _ _ [gI (TL σ0 t w)]
      refine v_ireturn rfl dX11_links_22 ?_
      first
        | exact ⟨by rw [if_pos (by omega)], hq_19⟩
        | exact ⟨by rw [if_neg (by omega)], QC.refl hI⟩
    · skip
      refine w_iconst (pc' := 10) (by decide) dX11_links_9 rfl ?_
      refine w_goto (pc' := 22) dX11_links_10 rfl ?_
      refine v_ireturn rfl dX11_links_22 ?_
      first
        | exact ⟨by rw [if_pos (by omega)], hq_19⟩
        | exact ⟨by rw [if_neg (by omega)], QC.refl hI⟩
theorem m_links {σ0 : gH} (hI : Inv σ0) (t w : Int) : Mt mX12_links 30 [gR 133, gI t, gI w] σ0 (fun v σ' => v = gI (if 0 ≤ w ∧ w ≤ 3 then TL σ0 t w else -1) ∧ QM σ0 σ') := by
  refine Mt.walk (ls := [gR 133, gI t, gI w]) pn_X12 rfl (fun _ _ h => by cases h.1) (Nat.le_of_ble_eq_true rfl) rfl ?_
  refine w_aload_n (pc' := 1) (i := 0) (by rfl) (by rfl) dX12_links_0 rfl ?_
  refine w_iconst (pc' := 2) (by decide) dX12_links_1 rfl ?_
  refine v_putI (pc' := 5) (ji := 0) rfl fp_X12_244 kd_133 sf_X12_0 dX12_links_2 rfl ?_
  refine w_iload_n (pc' := 6) (i := 2) (by rfl) (by rfl) dX12_links_5 rfl ?_
  refine w_if_lt (pc' := 9) (t := 14) dX12_links_6 rfl rfl (fun c_6 => ?_) (fun c_6 => ?_)
  · skip
    refine w_iconst (pc' := 15) (by decide) dX12_links_14 rfl ?_
    refine v_ireturn rfl dX12_links_15 ?_
    exact ⟨by rw [if_neg (by omega)], QM.up (QM.refl hI) (by decide) (fun h => h)⟩
  · skip
    refine w_iload_n (pc' := 10) (i := 2) (by rfl) (by rfl) dX12_links_9 rfl ?_
    refine w_iconst (pc' := 11) (by decide) dX12_links_10 rfl ?_
    refine w_icmp_le (pc' := 14) (t := 16) dX12_links_11 rfl rfl (fun c_11 => ?_) (fun c_11 => ?_)
    · skip
      refine w_aload_n (pc' := 17) (i := 0) (by rfl) (by rfl) dX12_links_16 rfl ?_
      refine w_iload_n (pc' := 18) (i := 1) (by rfl) (by rfl) dX12_links_17 rfl ?_
      refine w_callV (pc' := 21) (d' := 4) (av := [gI t]) mi_mX12_countVotes lk_X12_601 rfl ci_X12 kd_133 rfl (Nat.le_of_ble_eq_true rfl) (Nat.le_of_ble_eq_true rfl) dX12_links_18 rfl (q_countVotes hI (QM.up (k := 133) (i := 0) (v := 0) (QM.refl hI) (by decide) (fun h => h)) t) (fun v_18 σ18 q_18 => ?_)
      obtain ⟨rfl, hq_18, ha_18, hf_18, hw_18, hl_18, hx_18, hy_18⟩ := q_18
      show Wp _ _ _ _ _ _ []
      refine w_iload_n (pc' := 22) (i := 2) (by rfl) (by rfl) dX12_links_21 rfl ?_
      refine w_if_ne (pc' := 25) (t := 32) dX12_links_22 rfl rfl (fun c_22 => ?_) (fun c_22 => ?_)
      · skip
        refine w_iload_n (pc' := 33) (i := 2) (by rfl) (by rfl) dX12_links_32 rfl ?_
        refine w_iconst (pc' := 34) (by decide) dX12_links_33 rfl ?_
        refine w_icmp_ne (pc' := 37) (t := 44) dX12_links_34 rfl rfl (fun c_34 => ?_) (fun c_34 => ?_)
        · skip
          refine w_iload_n (pc' := 45) (i := 2) (by rfl) (by rfl) dX12_links_44 rfl ?_
          refine w_iconst (pc' := 46) (by decide) dX12_links_45 rfl ?_
          refine w_icmp_ne (pc' := 49) (t := 56) dX12_links_46 rfl rfl (fun c_46 => ?_) (fun c_46 => ?_)
          · skip
            refine w_aload_n (pc' := 57) (i := 0) (by rfl) (by rfl) dX12_links_56 rfl ?_
            refine v_getI (pc' := 60) (ji := 114) rfl fg_X12_595 kd_133 dX12_links_57 rfl ?_
            refine v_ireturn rfl dX12_links_60 ?_
            exact ⟨by rw [if_pos (by omega)]; first | exact congrArg gI (ha_18.trans (by rw [show w = 0 by omega])) | exact congrArg gI (hf_18.trans (by rw [show w = 1 by omega])) | exact congrArg gI (hw_18.trans (by rw [show w = 2 by omega])) | exact congrArg gI (hl_18.trans (by rw [show w = 3 by omega])), hq_18⟩
          · skip
            refine w_aload_n (pc' := 50) (i := 0) (by rfl) (by rfl) dX12_links_49 rfl ?_
            refine v_getI (pc' := 53) (ji := 113) rfl fg_X12_592 kd_133 dX12_links_50 rfl ?_
            refine w_goto (pc' := 60) dX12_links_53 rfl ?_
            refine v_ireturn rfl dX12_links_60 ?_
            exact ⟨by rw [if_pos (by omega)]; first | exact congrArg gI (ha_18.trans (by rw [show w = 0 by omega])) | exact congrArg gI (hf_18.trans (by rw [show w = 1 by omega])) | exact congrArg gI (hw_18.trans (by rw [show w = 2 by omega])) | exact congrArg gI (hl_18.trans (by rw [show w = 3 by omega])), hq_18⟩
        · skip
          refine w_aload_n (pc' := 38) (i := 0) (by rfl) (by rfl) dX12_links_37 rfl ?_
          refine v_getI (pc' := 41) (ji := 112) rfl fg_X12_589 kd_133 dX12_links_38 rfl ?_
          refine w_goto (pc' := 60) dX12_links_41 rfl ?_
          refine v_ireturn rfl dX12_links_60 ?_
          exact ⟨by rw [if_pos (by omega)]; first | exact congrArg gI (ha_18.trans (by rw [show w = 0 by omega])) | exact congrArg gI (hf_18.trans (by rw [show w = 1 by omega])) | exact congrArg gI (hw_18.trans (by rw [show w = 2 by omega])) | exact congrArg gI (hl_18.trans (by rw [show w = 3 by omega])), hq_18⟩
      · skip
        refine w_aload_n (pc' := 26) (i := 0) (by rfl) (by rfl) dX12_links_25 rfl ?_
        refine v_getI (pc' := 29) (ji := 111) rfl fg_X12_586 kd_133 dX12_links_26 rfl ?_
        refine w_goto (pc' := 60) dX12_links_29 rfl ?_
        refine v_ireturn rfl dX12_links_60 ?_
        exact ⟨by rw [if_pos (by omega)]; first | exact congrArg gI (ha_18.trans (by rw [show w = 0 by omega])) | exact congrArg gI (hf_18.trans (by rw [show w = 1 by omega])) | exact congrArg gI (hw_18.trans (by rw [show w = 2 by omega])) | exact congrArg gI (hl_18.trans (by rw [show w = 3 by omega])), hq_18⟩
    · skip
      refine w_iconst (pc' := 15) (by decide) dX12_links_14 rfl ?_
      refine v_ireturn rfl dX12_links_15 ?_
      exact ⟨by rw [if_neg (by omega)], QM.up (QM.refl hI) (by decide) (fun h => h)⟩
theorem ci_links (t w : Int) : CI Inv mX11_links mX12_links [gI t, gI w] := CI_query (fun σ0 => if 0 ≤ w ∧ w ≤ 3 then TL σ0 t w else -1) (fun σ0 hI => x_links hI t w) (fun σ0 hI => m_links hI t w) (fun _ => rfl)
