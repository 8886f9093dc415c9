/-! who sits: the class, the council (gen/mod_sit4.py) -/
theorem mem_row {σ : gH} (hI : Inv σ) {i : Int} (h0 : 0 ≤ i) (h1 : i < σ 125 2) : (0 ≤ σ 126 i ∧ σ 126 i < σ 3 2) ∧ σ 4 (σ 126 i) = 0 := by
  have k := (hI.f.mem.2.2.2 i h0 h1).2
  unfold isPe isP at k
  omega
/-- the seat of p in matter m as of t -/
noncomputable def SEAT (σ : gH) (m p t : Int) : Int := DUTY σ p (σ 127 m) (σ 128 m) t (LI σ (σ 128 m) t)
noncomputable def QN (σ : gH) (m t : Int) (n : Nat) : Int := sumI (fun i => if SEAT σ m (σ 126 i) t = 2 then 0 else 1) n
theorem QN_s {σ : gH} {m t i : Int} (h : 0 ≤ i) : QN σ m t (i + 1).toNat = QN σ m t i.toNat + if SEAT σ m (σ 126 i) t = 2 then 0 else 1 := sumI_s h
theorem QN_in {σ : gH} {m t : Int} (n : Nat) : 0 ≤ QN σ m t n ∧ QN σ m t n ≤ n := by
  constructor
  · exact sumI_nonneg fun i a b => by split <;> omega
  · have k : QN σ m t n ≤ sumI (fun _ => 1) n := sumI_le fun i a b => by split <;> omega
    rw [sumI_const] at k
    omega
theorem k_dutyOf {σ0 σ : gH} (hI : Inv σ0) (hq : QC σ0 σ) (m p t : Int) (hm0 : 0 ≤ m ∧ m < σ0 125 5) (hP : 0 ≤ p ∧ p < σ0 3 2) : Mt mX1_dutyOf 11 [gR 125, gI m, gI p, gI t] σ (fun v σ' => v = gI (SEAT σ0 m p t) ∧ QC σ0 σ' ∧ Kp 112 σ σ') := by
  refine Mt.walk (ls := [gR 125, gI m, gI p, gI t]) pn_X1 rfl (fun _ _ h => by cases h.1) (Nat.le_of_ble_eq_true rfl) rfl ?_
  have hmr := mat_row hI hm0.1 hm0.2
  have hmt := hI.f.mat.2.2.1
  refine w_aload_n (pc' := 1) (i := 0) (by rfl) (by rfl) dX1_dutyOf_0 rfl ?_
  refine w_iload_n (pc' := 2) (i := 1) (by rfl) (by rfl) dX1_dutyOf_1 rfl ?_
  refine v_callVE (pc' := 5) (st' := [gI (gb (0 ≤ m ∧ m < σ0 125 5))]) (d' := 0) (av := [gI m]) mi_mX1_hasMatter lk_X1_52 rfl ci_X1 kd_125 rfl (Nat.le_of_ble_eq_true rfl) (Nat.le_of_ble_eq_true rfl) dX1_dutyOf_2 rfl rfl (hmP (F := fun z => gI (gb (0 ≤ m ∧ m < z 125 5))) (hq.1) (fun _ => rfl) (k_hasMatter σ (hm_FA (hq.1) hI.1).1.mat.2.2.1 m)) ?_
  refine v_if_eqB (pc' := 8) (t := 32) dX1_dutyOf_5 rfl rfl (fun c_5 => ?_) (fun c_5 => ?_)
  · skip
    refine w_iconst (pc' := 33) (by decide) dX1_dutyOf_32 rfl ?_
    refine v_ireturn rfl dX1_dutyOf_33 ?_
    first | (exfalso; omega) | exact ⟨rfl, hq_26, hk_26⟩
  · skip
    refine w_aload_n (pc' := 9) (i := 0) (by rfl) (by rfl) dX1_dutyOf_8 rfl ?_
    refine w_getS (pc' := 12) (q := 110) fg_X1_34 kd_125 sf_X1_0 gr_125_0 dX1_dutyOf_9 rfl ?_
    refine w_iload_n (pc' := 13) (i := 2) (by rfl) (by rfl) dX1_dutyOf_12 rfl ?_
    refine w_aload_n (pc' := 14) (i := 0) (by rfl) (by rfl) dX1_dutyOf_13 rfl ?_
    refine w_getS (pc' := 17) (q := 127) fg_X1_15 kd_125 sf_X1_3 gr_125_3 dX1_dutyOf_14 rfl ?_
    refine w_iload_n (pc' := 18) (i := 1) (by rfl) (by rfl) dX1_dutyOf_17 rfl ?_
    refine w_iald (pc' := 19) kd_127 (by omega) (by omega) dX1_dutyOf_18 rfl ?_
    rw [(hq).rd (k := 127) (i := m) (.inr rfl)]
    refine w_aload_n (pc' := 20) (i := 0) (by rfl) (by rfl) dX1_dutyOf_19 rfl ?_
    refine w_getS (pc' := 23) (q := 128) fg_X1_18 kd_125 sf_X1_4 gr_125_4 dX1_dutyOf_20 rfl ?_
    refine w_iload_n (pc' := 24) (i := 1) (by rfl) (by rfl) dX1_dutyOf_23 rfl ?_
    refine w_iald (pc' := 25) kd_128 (by omega) (by omega) dX1_dutyOf_24 rfl ?_
    rw [(hq).rd (k := 128) (i := m) (.inr rfl)]
    refine w_iload_n (pc' := 26) (i := 3) (by rfl) (by rfl) dX1_dutyOf_25 rfl ?_
    refine w_callV (pc' := 29) (d' := 10) (av := [gI p, gI (σ0 127 m), gI (σ0 128 m), gI t]) mi_mX3_dutyFor lk_X1_55 rfl ci_X3 kd_110 rfl (Nat.le_of_ble_eq_true rfl) (Nat.le_of_ble_eq_true rfl) dX1_dutyOf_26 rfl (k_dutyFor hI hq p (σ0 127 m) (σ0 128 m) t (by omega) (by omega) (by omega) rfl) (fun v_26 σ26 q_26 => ?_)
    obtain ⟨rfl, hq_26, hk_26⟩ := q_26
    show Wp _ _ _ _ _ _ [gI (DUTY σ0 p (σ0 127 m) (σ0 128 m) t (LI σ0 (σ0 128 m) t))]
    refine w_goto (pc' := 33) dX1_dutyOf_29 rfl ?_
    refine v_ireturn rfl dX1_dutyOf_33 ?_
    first | (exfalso; omega) | exact ⟨rfl, hq_26, hk_26⟩
theorem k_seatsNeeded {σ0 σ : gH} (hI : Inv σ0) (hq : QC σ0 σ) (d t : Int) {l : Int} (hl : LI σ0 d t = l) : Mt mX3_seatsNeeded 2 [gR 110, gI d, gI t] σ (rE (gI (NU σ0 l 4)) σ) := by
  refine Mt.walk (ls := [gR 110, gI d, gI t]) pn_X3 rfl (fun _ _ h => by cases h.1) (Nat.le_of_ble_eq_true rfl) rfl ?_
  refine w_aload_n (pc' := 1) (i := 0) (by rfl) (by rfl) dX3_seatsNeeded_0 rfl ?_
  refine w_getS (pc' := 4) (q := 57) fg_X3_35 kd_110 sf_X3_5 gr_110_5 dX3_seatsNeeded_1 rfl ?_
  refine w_iload_n (pc' := 5) (i := 1) (by rfl) (by rfl) dX3_seatsNeeded_4 rfl ?_
  refine w_iload_n (pc' := 6) (i := 2) (by rfl) (by rfl) dX3_seatsNeeded_5 rfl ?_
  refine w_callV (pc' := 9) (d' := 1) (av := [gI d, gI t]) mi_mX5_inForce lk_X3_80 rfl ci_X5 kd_57 rfl (Nat.le_of_ble_eq_true rfl) (Nat.le_of_ble_eq_true rfl) dX3_seatsNeeded_6 rfl (k_inForce hI hq d t) (fun v_6 σ q_6 => ?_)
  obtain ⟨c, rfl, rfl, hL, hc⟩ := q_6
  rw [hl] at hL
  show Wp _ _ _ _ _ _ [gR c]
  refine v_callVE (pc' := 12) (st' := [gI (NU σ0 l 4)]) (d' := 0) (av := []) mi_mX4_seatsNeeded lk_X3_184 rfl ci_X4 hL.is.1.1 rfl (Nat.le_of_ble_eq_true rfl) (Nat.le_of_ble_eq_true rfl) dX3_seatsNeeded_9 rfl rfl (k_seatsL hL (hq.1)) ?_
  refine v_ireturn rfl dX3_seatsNeeded_12 ?_
  exact ⟨rfl, rfl⟩
theorem k_quorumOf {σ0 σ : gH} (hI : Inv σ0) (hq : QC σ0 σ) (m t : Int) (hm0 : 0 ≤ m ∧ m < σ0 125 5) : Mt mX1_quorumOf 11 [gR 125, gI m, gI t] σ (fun v σ' => v = gI (-(NU σ0 (LI σ0 (σ0 128 m) t) 4) + QN σ0 m t (σ0 125 2).toNat) ∧ QC σ0 σ') := by
  refine Mt.walk (ls := [gR 125, gI m, gI t, gX 1, gX 1]) pn_X1 rfl (fun _ _ h => by cases h.1) (Nat.le_of_ble_eq_true rfl) rfl ?_
  have hmr := mat_row hI hm0.1 hm0.2
  have hmt := hI.f.mat.2.2.1
  have hn := hI.f.mem.2.2.1
  have hn0 := hI.f.mem.2.1
  have h4 : 0 ≤ NU σ0 (LI σ0 (σ0 128 m) t) 4 ∧ NU σ0 (LI σ0 (σ0 128 m) t) 4 ≤ 12 := by
    have k := (LI_law hI (σ0 128 m) t).num.2.2.2.2.1
    omega
  refine w_aload_n (pc' := 1) (i := 0) (by rfl) (by rfl) dX1_quorumOf_0 rfl ?_
  refine w_iload_n (pc' := 2) (i := 1) (by rfl) (by rfl) dX1_quorumOf_1 rfl ?_
  refine v_callVE (pc' := 5) (st' := [gI (gb (0 ≤ m ∧ m < σ0 125 5))]) (d' := 0) (av := [gI m]) mi_mX1_hasMatter lk_X1_52 rfl ci_X1 kd_125 rfl (Nat.le_of_ble_eq_true rfl) (Nat.le_of_ble_eq_true rfl) dX1_quorumOf_2 rfl rfl (hmP (F := fun z => gI (gb (0 ≤ m ∧ m < z 125 5))) (hq.1) (fun _ => rfl) (k_hasMatter σ (hm_FA (hq.1) hI.1).1.mat.2.2.1 m)) ?_
  refine v_if_neB (pc' := 8) (t := 10) dX1_quorumOf_5 rfl rfl (fun c_5 => ?_) (fun c_5 => ?_)
  · skip
    refine w_aload_n (pc' := 11) (i := 0) (by rfl) (by rfl) dX1_quorumOf_10 rfl ?_
    refine w_getS (pc' := 14) (q := 110) fg_X1_34 kd_125 sf_X1_0 gr_125_0 dX1_quorumOf_11 rfl ?_
    refine w_aload_n (pc' := 15) (i := 0) (by rfl) (by rfl) dX1_quorumOf_14 rfl ?_
    refine w_getS (pc' := 18) (q := 128) fg_X1_18 kd_125 sf_X1_4 gr_125_4 dX1_quorumOf_15 rfl ?_
    refine w_iload_n (pc' := 19) (i := 1) (by rfl) (by rfl) dX1_quorumOf_18 rfl ?_
    refine w_iald (pc' := 20) kd_128 (by (first | omega | (have := hrow (by omega); omega))) (by (first | omega | (have := hrow (by omega); omega))) dX1_quorumOf_19 rfl ?_
    rw [(hq).rd (k := 128) (i := m) (.inr rfl)]
    refine w_iload_n (pc' := 21) (i := 2) (by rfl) (by rfl) dX1_quorumOf_20 rfl ?_
    refine v_callVE (pc' := 24) (st' := [gI (NU σ0 (LI σ0 (σ0 128 m) t) 4)]) (d' := 2) (av := [gI (σ0 128 m), gI t]) mi_mX3_seatsNeeded lk_X1_61 rfl ci_X3 kd_110 rfl (Nat.le_of_ble_eq_true rfl) (Nat.le_of_ble_eq_true rfl) dX1_quorumOf_21 rfl rfl (k_seatsNeeded hI hq (σ0 128 m) t rfl) ?_
    refine w_ineg (pc' := 25) dX1_quorumOf_24 rfl ?_
    refine w_istore_n (pc' := 26) (i := 3) (ls' := [gR 125, gI m, gI t, gI (w32 (-(NU σ0 (LI σ0 (σ0 128 m) t) 4))), gX 1]) (by rfl) (by decide) (by rfl) dX1_quorumOf_25 rfl ?_
    refine w_iconst (pc' := 27) (by decide) dX1_quorumOf_26 rfl ?_
    refine w_istore (pc' := 29) (ls' := [gR 125, gI m, gI t, gI (w32 (-(NU σ0 (LI σ0 (σ0 128 m) t) 4))), gI 0]) (by decide) (by rfl) dX1_quorumOf_27 rfl ?_
    have hl_29 : ∀ (mm : Nat) (i a : Int) (σv : gH), (σ0 125 2 - i).toNat = mm → (0 ≤ i) → (i ≤ σ0 125 2) → (a = -(NU σ0 (LI σ0 (σ0 128 m) t) 4) + QN σ0 m t i.toNat) → (QC σ0 σv) → Wp mX1_quorumOf 11 (fun v σ' => v = gI (-(NU σ0 (LI σ0 (σ0 128 m) t) 4) + QN σ0 m t (σ0 125 2).toNat) ∧ QC σ0 σ') σv 29 [gR 125, gI m, gI t, gI a, gI i] [] := by
      intro m_29
      induction m_29 using Nat.strongRecOn with
      | _ m_29 ih_29 =>
        intro i a σv hmeas_29 i0 i1 ha hqv
        have hrow := fun h : i < σ0 125 2 => mem_row hI i0 h
        have es := QN_s (σ := σ0) (m := m) (t := t) i0
        have qi := QN_in (σ := σ0) (m := m) (t := t) i.toNat
        refine w_iload (pc' := 31) (by rfl) dX1_quorumOf_29 rfl ?_
        refine w_aload_n (pc' := 32) (i := 0) (by rfl) (by rfl) dX1_quorumOf_31 rfl ?_
        refine v_getI (pc' := 35) (ji := 2) rfl fg_X1_38 kd_125 dX1_quorumOf_32 rfl ?_
        rw [(hqv).rd (k := 125) (i := 2) (.inr rfl)]
        refine w_icmp_ge (pc' := 38) (t := 85) dX1_quorumOf_35 rfl rfl (fun c_35 => ?_) (fun c_35 => ?_)
        · skip
          refine w_iload_n (pc' := 86) (i := 3) (by rfl) (by rfl) dX1_quorumOf_85 rfl ?_
          refine v_ireturn rfl dX1_quorumOf_86 ?_
          exact ⟨by rw [ha, show i = σ0 125 2 by omega], hqv⟩
        · skip
          refine w_iload (pc' := 40) (by rfl) dX1_quorumOf_38 rfl ?_
          refine w_bipush (pc' := 42) (by decide) (by decide) dX1_quorumOf_40 rfl ?_
          refine w_icmp_ge (pc' := 45) (t := 85) dX1_quorumOf_42 rfl rfl (fun c_42 => ?_) (fun c_42 => ?_)
          · skip
            refine w_iload_n (pc' := 86) (i := 3) (by rfl) (by rfl) dX1_quorumOf_85 rfl ?_
            refine v_ireturn rfl dX1_quorumOf_86 ?_
            exact ⟨by rw [ha, show i = σ0 125 2 by omega], hqv⟩
          · skip
            refine w_aload_n (pc' := 46) (i := 0) (by rfl) (by rfl) dX1_quorumOf_45 rfl ?_
            refine w_getS (pc' := 49) (q := 110) fg_X1_34 kd_125 sf_X1_0 gr_125_0 dX1_quorumOf_46 rfl ?_
            refine w_aload_n (pc' := 50) (i := 0) (by rfl) (by rfl) dX1_quorumOf_49 rfl ?_
            refine w_getS (pc' := 53) (q := 126) fg_X1_11 kd_125 sf_X1_1 gr_125_1 dX1_quorumOf_50 rfl ?_
            refine w_iload (pc' := 55) (by rfl) dX1_quorumOf_53 rfl ?_
            refine w_iald (pc' := 56) kd_126 (by (first | omega | (have := hrow (by omega); omega))) (by (first | omega | (have := hrow (by omega); omega))) dX1_quorumOf_55 rfl ?_
            rw [(hqv).rd (k := 126) (i := i) (.inr rfl)]
            refine w_aload_n (pc' := 57) (i := 0) (by rfl) (by rfl) dX1_quorumOf_56 rfl ?_
            refine w_getS (pc' := 60) (q := 127) fg_X1_15 kd_125 sf_X1_3 gr_125_3 dX1_quorumOf_57 rfl ?_
            refine w_iload_n (pc' := 61) (i := 1) (by rfl) (by rfl) dX1_quorumOf_60 rfl ?_
            refine w_iald (pc' := 62) kd_127 (by (first | omega | (have := hrow (by omega); omega))) (by (first | omega | (have := hrow (by omega); omega))) dX1_quorumOf_61 rfl ?_
            rw [(hqv).rd (k := 127) (i := m) (.inr rfl)]
            refine w_aload_n (pc' := 63) (i := 0) (by rfl) (by rfl) dX1_quorumOf_62 rfl ?_
            refine w_getS (pc' := 66) (q := 128) fg_X1_18 kd_125 sf_X1_4 gr_125_4 dX1_quorumOf_63 rfl ?_
            refine w_iload_n (pc' := 67) (i := 1) (by rfl) (by rfl) dX1_quorumOf_66 rfl ?_
            refine w_iald (pc' := 68) kd_128 (by (first | omega | (have := hrow (by omega); omega))) (by (first | omega | (have := hrow (by omega); omega))) dX1_quorumOf_67 rfl ?_
            rw [(hqv).rd (k := 128) (i := m) (.inr rfl)]
            refine w_iload_n (pc' := 69) (i := 2) (by rfl) (by rfl) dX1_quorumOf_68 rfl ?_
            refine w_callV (pc' := 72) (d' := 10) (av := [gI (σ0 126 i), gI (σ0 127 m), gI (σ0 128 m), gI t]) mi_mX3_dutyFor lk_X1_55 rfl ci_X3 kd_110 rfl (Nat.le_of_ble_eq_true rfl) (Nat.le_of_ble_eq_true rfl) dX1_quorumOf_69 rfl (k_dutyFor hI hqv (σ0 126 i) (σ0 127 m) (σ0 128 m) t (by omega) (by omega) (by omega) rfl) (fun v_69 σ69 q_69 => ?_)
            obtain ⟨rfl, hq_69, hk_69⟩ := q_69
            show Wp _ _ _ _ _ _ [gI (DUTY σ0 (σ0 126 i) (σ0 127 m) (σ0 128 m) t (LI σ0 (σ0 128 m) t))]
            refine w_iconst (pc' := 73) (by decide) dX1_quorumOf_72 rfl ?_
            refine w_icmp_eq (pc' := 76) (t := 79) dX1_quorumOf_73 rfl rfl (fun c_73 => ?_) (fun c_73 => ?_)
            · skip
              refine v_iinc (pc' := 82) (x := i) (ls' := [gR 125, gI m, gI t, gI a, gI (i + 1)]) (by (first | omega | (have := hrow (by omega); omega))) (by decide) (by rfl) (by rfl) dX1_quorumOf_79 rfl ?_
              refine w_goto (pc' := 29) dX1_quorumOf_82 rfl ?_
              exact ih_29 _ (by omega) (i + 1) a σ69 rfl (by omega) (by omega) (by rw [es]; unfold SEAT; first | (rw [if_pos (by omega)]; omega) | (rw [if_neg (by omega)]; omega)) (by exact hq_69)
            · skip
              refine v_iinc (pc' := 79) (x := a) (ls' := [gR 125, gI m, gI t, gI (a + 1), gI i]) (by (first | omega | (have := hrow (by omega); omega))) (by decide) (by rfl) (by rfl) dX1_quorumOf_76 rfl ?_
              refine v_iinc (pc' := 82) (x := i) (ls' := [gR 125, gI m, gI t, gI (a + 1), gI (i + 1)]) (by (first | omega | (have := hrow (by omega); omega))) (by decide) (by rfl) (by rfl) dX1_quorumOf_79 rfl ?_
              refine w_goto (pc' := 29) dX1_quorumOf_82 rfl ?_
              exact ih_29 _ (by omega) (i + 1) (a + 1) σ69 rfl (by omega) (by omega) (by rw [es]; unfold SEAT; first | (rw [if_pos (by omega)]; omega) | (rw [if_neg (by omega)]; omega)) (by exact hq_69)
    exact hl_29 _ 0 (w32 (-(NU σ0 (LI σ0 (σ0 128 m) t) 4))) σ rfl (by omega) (by omega) (by show w32 _ = _ + (0 : Int); rw [w32_id (by constructor <;> omega)]; omega) (by exact hq)
  · skip
    refine w_iconst (pc' := 9) (by decide) dX1_quorumOf_8 rfl ?_
    refine v_ireturn rfl dX1_quorumOf_9 ?_
    exfalso; omega
