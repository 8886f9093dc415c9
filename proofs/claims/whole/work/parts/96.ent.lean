/-! joined, entered: the calls (gen/mod_ent.py) -/
theorem fitP_hm {σ : gH} {t : Int} : fitP (hm σ) t = fitP σ t := funext fun _ => funext fun _ => rfl
theorem sumI_in_s {p : Int → Prop} {i : Int} (h : 0 ≤ i) : (p i → sumI (fun e => inI (p e)) (i + 1).toNat = sumI (fun e => inI (p e)) i.toNat + 1) ∧ (¬ p i → sumI (fun e => inI (p e)) (i + 1).toNat = sumI (fun e => inI (p e)) i.toNat) := by
  rw [sumI_s (f := fun e => inI (p e)) h]
  refine ⟨fun k => by rw [inI_t k], fun k => by rw [inI_f k]; exact Int.add_zero _⟩
theorem x_joined {σ0 : gH} (hI : Inv σ0) (t : Int) : Mt mX11_joined 30 [gR 0, gI t] σ0 (fun v σ' => v = gI (szM (σ0 112 8) (LXM (σ0 112 8) (σ0 41 11) (fitP σ0 t))) ∧ QC σ0 σ') := by
  refine Mt.walk (ls := [gR 0, gI t]) pn_X11 rfl (fun _ _ h => by cases h.1) (Nat.le_of_ble_eq_true rfl) rfl ?_
  refine w_aload_n (pc' := 1) (i := 0) (by rfl) (by rfl) dX11_joined_0 rfl ?_
  refine w_getS (pc' := 4) (q := 112) fg_X11_76 kd_0 sf_X11_12 gr_0_12 dX11_joined_1 rfl ?_
  refine w_iload_n (pc' := 5) (i := 1) (by rfl) (by rfl) dX11_joined_4 rfl ?_
  refine w_callV (pc' := 8) (d' := 6) (av := [gI t]) mi_mX6_join lk_X11_239 rfl ci_X6 kd_112 rfl (Nat.le_of_ble_eq_true rfl) (Nat.le_of_ble_eq_true rfl) dX11_joined_5 rfl (kj_join hI (QC.refl hI) t) (fun v_5 σ5 q_5 => ?_)
  obtain ⟨rfl, hq_5, hj_5⟩ := q_5
  show Wp _ _ _ _ _ _ [gI (szM (σ0 112 8) (LXM (σ0 112 8) (σ0 41 11) (fitP σ0 t)))]
  refine v_ireturn rfl dX11_joined_8 ?_
  exact ⟨rfl, hq_5⟩
theorem m_joined {σ0 : gH} (hI : Inv σ0) (t : Int) : Mt mX12_joined 30 [gR 133, gI t] σ0 (fun v σ' => v = gI (szM (σ0 112 8) (LXM (σ0 112 8) (σ0 41 11) (fitP σ0 t))) ∧ QM σ0 σ') := by
  refine Mt.walk (ls := [gR 133, gI t, gX 1, gX 1]) pn_X12 rfl (fun _ _ h => by cases h.1) (Nat.le_of_ble_eq_true rfl) rfl ?_
  have hen0 := hI.f.ent.2.1
  have hen := hI.f.ent.2.2.1
  refine w_aload_n (pc' := 1) (i := 0) (by rfl) (by rfl) dX12_joined_0 rfl ?_
  refine w_iconst (pc' := 2) (by decide) dX12_joined_1 rfl ?_
  refine v_putI (pc' := 5) (ji := 0) rfl fp_X12_244 kd_133 sf_X12_0 dX12_joined_2 rfl ?_
  refine w_aload_n (pc' := 6) (i := 0) (by rfl) (by rfl) dX12_joined_5 rfl ?_
  refine w_iload_n (pc' := 7) (i := 1) (by rfl) (by rfl) dX12_joined_6 rfl ?_
  refine w_callV (pc' := 10) (d' := 4) (av := [gI t]) mi_mX12_join lk_X12_580 rfl ci_X12 kd_133 rfl (Nat.le_of_ble_eq_true rfl) (Nat.le_of_ble_eq_true rfl) dX12_joined_7 rfl (q_join hI (QM.up (k := 133) (i := 0) (v := 0) (QM.refl hI) (by decide) (fun h => h)) t) (fun v_7 σ7 q_7 => ?_)
  obtain ⟨rfl, hq_7, hi_7, h0_7, h8_7⟩ := q_7
  show Wp _ _ _ _ _ _ []
  refine w_iconst (pc' := 11) (by decide) dX12_joined_10 rfl ?_
  refine w_istore_n (pc' := 12) (i := 2) (ls' := [gR 133, gI t, gI 0, gX 1]) (by rfl) (by decide) (by rfl) dX12_joined_11 rfl ?_
  refine w_iconst (pc' := 13) (by decide) dX12_joined_12 rfl ?_
  refine w_istore_n (pc' := 14) (i := 3) (ls' := [gR 133, gI t, gI 0, gI 0]) (by rfl) (by decide) (by rfl) dX12_joined_13 rfl ?_
  have hl_14 : ∀ (mm : Nat) (n i : Int), (σ0 112 8 - i).toNat = mm → (0 ≤ i) → (i ≤ σ0 112 8) → (n = sumI (fun e => inI (σ7 199 e ≠ -1)) i.toNat) → Wp mX12_joined 30 (fun v σ' => v = gI (szM (σ0 112 8) (LXM (σ0 112 8) (σ0 41 11) (fitP σ0 t))) ∧ QM σ0 σ') σ7 14 [gR 133, gI t, gI n, gI i] [] := by
    intro m_14
    induction m_14 using Nat.strongRecOn with
    | _ m_14 ih_14 =>
      intro n i hmeas_14 i0 i1 hn
      have es := sumI_in_s (p := fun e => σ7 199 e ≠ -1) i0
      have si := sum_in (p := fun e => σ7 199 e ≠ -1) i.toNat
      refine w_iload_n (pc' := 15) (i := 3) (by rfl) (by rfl) dX12_joined_14 rfl ?_
      refine w_aload_n (pc' := 16) (i := 0) (by rfl) (by rfl) dX12_joined_15 rfl ?_
      refine v_getI (pc' := 19) (ji := 99) rfl fg_X12_562 kd_133 dX12_joined_16 rfl ?_
      rw [(hq_7).rd (k := 133) (i := 99) (.inr rfl)]
      rw [hI.f99]
      refine w_icmp_ge (pc' := 22) (t := 41) dX12_joined_19 rfl rfl (fun c_19 => ?_) (fun c_19 => ?_)
      · skip
        refine w_iload_n (pc' := 42) (i := 2) (by rfl) (by rfl) dX12_joined_41 rfl ?_
        refine v_ireturn rfl dX12_joined_42 ?_
        exact ⟨by rw [hn, show i = σ0 112 8 by omega]; exact congrArg gI (LXM_eq hi_7).2, hq_7⟩
      · skip
        refine w_aload_n (pc' := 23) (i := 0) (by rfl) (by rfl) dX12_joined_22 rfl ?_
        refine w_getS (pc' := 26) (q := 199) fg_X12_217 kd_133 sf_X12_102 gr_133_102 dX12_joined_23 rfl ?_
        refine w_iload_n (pc' := 27) (i := 3) (by rfl) (by rfl) dX12_joined_26 rfl ?_
        refine w_iald (pc' := 28) kd_199 (by omega) (by omega) dX12_joined_27 rfl ?_
        refine w_iconst (pc' := 29) (by decide) dX12_joined_28 rfl ?_
        refine w_icmp_eq (pc' := 32) (t := 35) dX12_joined_29 rfl rfl (fun c_29 => ?_) (fun c_29 => ?_)
        · skip
          refine v_iinc (pc' := 38) (x := i) (ls' := [gR 133, gI t, gI n, gI (i + 1)]) (by omega) (by decide) (by rfl) (by rfl) dX12_joined_35 rfl ?_
          refine w_goto (pc' := 14) dX12_joined_38 rfl ?_
          exact ih_14 _ (by omega) n (i + 1) rfl (by omega) (by omega) (by first | (rw [es.1 (by omega)]; omega) | (rw [es.2 (by omega)]; omega))
        · skip
          refine v_iinc (pc' := 35) (x := n) (ls' := [gR 133, gI t, gI (n + 1), gI i]) (by omega) (by decide) (by rfl) (by rfl) dX12_joined_32 rfl ?_
          refine v_iinc (pc' := 38) (x := i) (ls' := [gR 133, gI t, gI (n + 1), gI (i + 1)]) (by omega) (by decide) (by rfl) (by rfl) dX12_joined_35 rfl ?_
          refine w_goto (pc' := 14) dX12_joined_38 rfl ?_
          exact ih_14 _ (by omega) (n + 1) (i + 1) rfl (by omega) (by omega) (by first | (rw [es.1 (by omega)]; omega) | (rw [es.2 (by omega)]; omega))
  exact hl_14 _ 0 0 rfl (by omega) (by omega) (by rfl)
theorem ci_joined (t : Int) : CI Inv mX11_joined mX12_joined [gI t] := CI_query (fun σ0 => szM (σ0 112 8) (LXM (σ0 112 8) (σ0 41 11) (fitP σ0 t))) (fun σ0 hI => x_joined hI t) (fun σ0 hI => m_joined hI t) (fun σ => by show szM _ (LXM _ _ (fitP (hm σ) t)) = _; rw [fitP_hm]; rfl)
def PN (σ : gH) (n : Int) (k : Nat) : Int := sumI (fun x => gb (σ 4 x = 0 ∧ σ 5 x = n)) k
theorem PN_s {σ : gH} {n x : Int} (h : 0 ≤ x) : PN σ n (x + 1).toNat = PN σ n x.toNat + gb (σ 4 x = 0 ∧ σ 5 x = n) := sumI_s h
theorem PN_in {σ : gH} {n : Int} (k : Nat) : 0 ≤ PN σ n k ∧ PN σ n k ≤ k := by
  refine ⟨sumI_nonneg fun i _ _ => by rcases gb_01 (σ 4 i = 0 ∧ σ 5 i = n) with k | k <;> omega, ?_⟩
  have a : PN σ n k ≤ sumI (fun _ => 1) k := sumI_le fun i _ _ => by rcases gb_01 (σ 4 i = 0 ∧ σ 5 i = n) with k | k <;> omega
  rw [sumI_const] at a
  omega
noncomputable def ENT (σ : gH) (e t w : Int) : Int := if w = 0 then LXM (σ 112 8) (σ 41 11) (fitP σ t) e else if w = 1 then (if PN σ (σ 114 e) (σ 3 2).toNat = 1 then 0 else 1) else PN σ (σ 114 e) (σ 3 2).toNat
theorem ENT_t {σ : gH} {e t : Int} (h : PN σ (σ 114 e) (σ 3 2).toNat = 1) : gI 0 = gI (ENT σ e t 1) := congrArg gI (((if_neg (by decide)).trans ((if_pos rfl).trans (if_pos h)) : ENT σ e t 1 = 0)).symm
theorem ENT_f {σ : gH} {e t : Int} (h : ¬ PN σ (σ 114 e) (σ 3 2).toNat = 1) : gI 1 = gI (ENT σ e t 1) := congrArg gI (((if_neg (by decide)).trans ((if_pos rfl).trans (if_neg h)) : ENT σ e t 1 = 1)).symm
theorem kj_peopleNamed {σ0 σ : gH} (hI : Inv σ0) (hq : QC σ0 σ) (n : Int) : Mt mX8_peopleNamed 2 [gR 3, gJ n] σ (rE (gI (PN σ0 n (σ0 3 2).toNat)) σ) := by
  refine Mt.walk (ls := [gR 3, gJ n, gX 1, gX 1, gX 1]) pn_X8 rfl (fun _ _ h => by cases h.1) (Nat.le_of_ble_eq_true rfl) rfl ?_
  have hp := hI.f.hp
  have hp0 := hI.f.party.2.1
  refine w_iconst (pc' := 1) (by decide) dX8_peopleNamed_0 rfl ?_
  refine w_istore_n (pc' := 2) (i := 3) (ls' := [gR 3, gJ n, gX 1, gI 0, gX 1]) (by rfl) (by decide) (by rfl) dX8_peopleNamed_1 rfl ?_
  refine w_iconst (pc' := 3) (by decide) dX8_peopleNamed_2 rfl ?_
  refine w_istore (pc' := 5) (ls' := [gR 3, gJ n, gX 1, gI 0, gI 0]) (by decide) (by rfl) dX8_peopleNamed_3 rfl ?_
  have hl_5 : ∀ (mm : Nat) (m x : Int), (σ0 3 2 - x).toNat = mm → (0 ≤ x) → (x ≤ σ0 3 2) → (m = PN σ0 n x.toNat) → Wp mX8_peopleNamed 2 (rE (gI (PN σ0 n (σ0 3 2).toNat)) σ) σ 5 [gR 3, gJ n, gX 1, gI m, gI x] [] := by
    intro m_5
    induction m_5 using Nat.strongRecOn with
    | _ m_5 ih_5 =>
      intro m x hmeas_5 x0 x1 hm
      have es := PN_s (σ := σ0) (n := n) x0
      have pi := PN_in (σ := σ0) (n := n) x.toNat
      refine w_iload (pc' := 7) (by rfl) dX8_peopleNamed_5 rfl ?_
      refine w_aload_n (pc' := 8) (i := 0) (by rfl) (by rfl) dX8_peopleNamed_7 rfl ?_
      refine v_getI (pc' := 11) (ji := 2) rfl fg_X8_37 kd_3 dX8_peopleNamed_8 rfl ?_
      rw [(hq).rd (k := 3) (i := 2) (.inr rfl)]
      refine w_icmp_ge (pc' := 14) (t := 42) dX8_peopleNamed_11 rfl rfl (fun c_11 => ?_) (fun c_11 => ?_)
      · skip
        refine w_iload_n (pc' := 43) (i := 3) (by rfl) (by rfl) dX8_peopleNamed_42 rfl ?_
        refine v_ireturn rfl dX8_peopleNamed_43 ?_
        exact ⟨by rw [hm, show x = σ0 3 2 by omega], rfl⟩
      · skip
        refine w_aload_n (pc' := 15) (i := 0) (by rfl) (by rfl) dX8_peopleNamed_14 rfl ?_
        refine w_iload (pc' := 17) (by rfl) dX8_peopleNamed_15 rfl ?_
        refine v_callVE (pc' := 20) (st' := [gI (gb ((0 ≤ x ∧ x < (σ0 3 2)) ∧ (σ0 4 x) = 0))]) (d' := 1) (av := [gI x]) mi_mX8_isPerson lk_X8_44 rfl ci_X8 kd_3 rfl (Nat.le_of_ble_eq_true rfl) (Nat.le_of_ble_eq_true rfl) dX8_peopleNamed_17 rfl rfl (hmP (F := fun z => gI (gb ((0 ≤ x ∧ x < (z 3 2)) ∧ (z 4 x) = 0))) (hq.1) (fun _ => rfl) (pa_isPerson σ (hm_FA (hq.1) hI.1).1.hp x)) ?_
        refine v_if_eqB (pc' := 23) (t := 36) dX8_peopleNamed_20 rfl rfl (fun c_20 => ?_) (fun c_20 => ?_)
        · skip
          refine v_iinc (pc' := 39) (x := x) (ls' := [gR 3, gJ n, gX 1, gI m, gI (x + 1)]) (by omega) (by decide) (by rfl) (by rfl) dX8_peopleNamed_36 rfl ?_
          refine w_goto (pc' := 5) dX8_peopleNamed_39 rfl ?_
          exact ih_5 _ (by omega) m (x + 1) rfl (by omega) (by omega) (by rw [es]; first | (rw [gb_t (by omega)]; omega) | (rw [gb_f (by omega)]; omega))
        · skip
          refine w_aload_n (pc' := 24) (i := 0) (by rfl) (by rfl) dX8_peopleNamed_23 rfl ?_
          refine w_iload (pc' := 26) (by rfl) dX8_peopleNamed_24 rfl ?_
          refine w_lload_n (pc' := 27) (i := 1) (by rfl) (by rfl) dX8_peopleNamed_26 rfl ?_
          refine v_callVE (pc' := 30) (st' := [gI (gb ((0 ≤ x ∧ x < σ0 3 2) ∧ σ0 5 x = n))]) (d' := 1) (av := [gI x, gJ n]) mi_mX8_isNamed lk_X8_47 rfl ci_X8 kd_3 rfl (Nat.le_of_ble_eq_true rfl) (Nat.le_of_ble_eq_true rfl) dX8_peopleNamed_27 rfl rfl (kj_isNamed hI hq x n) ?_
          refine v_if_eqB (pc' := 33) (t := 36) dX8_peopleNamed_30 rfl rfl (fun c_30 => ?_) (fun c_30 => ?_)
          · skip
            refine v_iinc (pc' := 39) (x := x) (ls' := [gR 3, gJ n, gX 1, gI m, gI (x + 1)]) (by omega) (by decide) (by rfl) (by rfl) dX8_peopleNamed_36 rfl ?_
            refine w_goto (pc' := 5) dX8_peopleNamed_39 rfl ?_
            exact ih_5 _ (by omega) m (x + 1) rfl (by omega) (by omega) (by rw [es]; first | (rw [gb_t (by omega)]; omega) | (rw [gb_f (by omega)]; omega))
          · skip
            refine v_iinc (pc' := 36) (x := m) (ls' := [gR 3, gJ n, gX 1, gI (m + 1), gI x]) (by omega) (by decide) (by rfl) (by rfl) dX8_peopleNamed_33 rfl ?_
            refine v_iinc (pc' := 39) (x := x) (ls' := [gR 3, gJ n, gX 1, gI (m + 1), gI (x + 1)]) (by omega) (by decide) (by rfl) (by rfl) dX8_peopleNamed_36 rfl ?_
            refine w_goto (pc' := 5) dX8_peopleNamed_39 rfl ?_
            exact ih_5 _ (by omega) (m + 1) (x + 1) rfl (by omega) (by omega) (by rw [es]; first | (rw [gb_t (by omega)]; omega) | (rw [gb_f (by omega)]; omega))
  exact hl_5 _ 0 0 rfl (by omega) (by omega) (by rfl)
theorem kj_bearersOf {σ0 σ : gH} (hI : Inv σ0) (hq : QC σ0 σ) (e : Int) (he : 0 ≤ e ∧ e < σ0 112 8) : Mt mX6_bearersOf 3 [gR 112, gI e] σ (rE (gI (PN σ0 (σ0 114 e) (σ0 3 2).toNat)) σ) := by
  refine Mt.walk (ls := [gR 112, gI e]) pn_X6 rfl (fun _ _ h => by cases h.1) (Nat.le_of_ble_eq_true rfl) rfl ?_
  have hen0 := hI.f.ent.2.1
  have hen := hI.f.ent.2.2.1
  refine w_aload_n (pc' := 1) (i := 0) (by rfl) (by rfl) dX6_bearersOf_0 rfl ?_
  refine w_iload_n (pc' := 2) (i := 1) (by rfl) (by rfl) dX6_bearersOf_1 rfl ?_
  refine v_callVE (pc' := 5) (st' := [gI (gb ((0 ≤ e ∧ e < σ0 112 8) ∧ e < 100))]) (d' := 0) (av := [gI e]) mi_mX6_has lk_X6_65 rfl ci_X6 kd_112 rfl (Nat.le_of_ble_eq_true rfl) (Nat.le_of_ble_eq_true rfl) dX6_bearersOf_2 rfl rfl (hmP (F := fun z => gI (gb ((0 ≤ e ∧ e < z 112 8) ∧ e < 100))) (hq.1) (fun _ => rfl) (kj_has σ e)) ?_
  refine v_if_eqB (pc' := 8) (t := 24) dX6_bearersOf_5 rfl rfl (fun c_5 => ?_) (fun c_5 => ?_)
  · skip
    refine w_iconst (pc' := 25) (by decide) dX6_bearersOf_24 rfl ?_
    refine v_ireturn rfl dX6_bearersOf_25 ?_
    first | (exfalso; omega) | exact ⟨rfl, rfl⟩
  · skip
    refine w_aload_n (pc' := 9) (i := 0) (by rfl) (by rfl) dX6_bearersOf_8 rfl ?_
    refine w_getS (pc' := 12) (q := 3) fg_X6_49 kd_112 sf_X6_0 gr_112_0 dX6_bearersOf_9 rfl ?_
    refine w_aload_n (pc' := 13) (i := 0) (by rfl) (by rfl) dX6_bearersOf_12 rfl ?_
    refine w_getS (pc' := 16) (q := 114) fg_X6_15 kd_112 sf_X6_4 gr_112_4 dX6_bearersOf_13 rfl ?_
    refine w_iload_n (pc' := 17) (i := 1) (by rfl) (by rfl) dX6_bearersOf_16 rfl ?_
    refine w_lald (pc' := 18) kd_114 (by omega) (by omega) dX6_bearersOf_17 rfl ?_
    rw [(hq).rd (k := 114) (i := e) (.inr rfl)]
    refine v_callVE (pc' := 21) (st' := [gI (PN σ0 (σ0 114 e) (σ0 3 2).toNat)]) (d' := 2) (av := [gJ (σ0 114 e)]) mi_mX8_peopleNamed lk_X6_69 rfl ci_X8 kd_3 rfl (Nat.le_of_ble_eq_true rfl) (Nat.le_of_ble_eq_true rfl) dX6_bearersOf_18 rfl rfl (kj_peopleNamed hI hq (σ0 114 e)) ?_
    refine w_goto (pc' := 25) dX6_bearersOf_21 rfl ?_
    refine v_ireturn rfl dX6_bearersOf_25 ?_
    first | (exfalso; omega) | exact ⟨rfl, rfl⟩
theorem site_entered : tx_Site mX11_entered 21 := ⟨185, 243, 189, "no such entry is known then, or no such answer", ex_cn, by decide, ex_atm, ex_ot, dX11_entered_21, dX11_entered_24, Or.inl ⟨dX11_entered_25, dX11_entered_27, dX11_entered_30⟩⟩
theorem xu_entered {σ0 : gH} (hI : Inv σ0) (e t w : Int) : Up mX11_entered 30 (fun v σ' => ((((0 ≤ e ∧ e < σ0 112 8) ∧ σ0 117 e ≤ t) ∧ 0 ≤ w ∧ w ≤ 2) ∧ v = gI (ENT σ0 e t w) ∧ QC σ0 σ') ∨ (¬ (((0 ≤ e ∧ e < σ0 112 8) ∧ σ0 117 e ≤ t) ∧ 0 ≤ w ∧ w ≤ 2) ∧ v = gX (21 + 9) ∧ QC σ0 σ')) σ0 0 [gR 0, gI e, gI t, gI w, gX 1] [] := by
  have hen0 := hI.f.ent.2.1
  have hen := hI.f.ent.2.2.1
  refine u_aload_n (pc' := 1) (i := 0) (by rfl) (by rfl) dX11_entered_0 rfl ?_
  refine u_getS (pc' := 4) (q := 112) fg_X11_76 kd_0 sf_X11_12 gr_0_12 dX11_entered_1 rfl ?_
  refine u_iload_n (pc' := 5) (i := 1) (by rfl) (by rfl) dX11_entered_4 rfl ?_
  refine u_iload_n (pc' := 6) (i := 2) (by rfl) (by rfl) dX11_entered_5 rfl ?_
  refine uv_callVE (pc' := 9) (st' := [gI (gb ((0 ≤ e ∧ e < σ0 112 8) ∧ σ0 117 e ≤ t))]) (d' := 1) (av := [gI e, gI t]) mi_mX6_isKnown lk_X11_242 rfl ci_X6 kd_112 rfl (Nat.le_of_ble_eq_true rfl) (Nat.le_of_ble_eq_true rfl) dX11_entered_6 rfl rfl (kj_isKnown hI (QC.refl hI) e t) ?_
  refine uv_if_eqB (pc' := 12) (t := 21) dX11_entered_9 rfl rfl (fun c_9 => ?_) (fun c_9 => ?_)
  · skip
    refine u_throw (i := 185) dX11_entered_21 ?_
    exact Or.inr ⟨by omega, rfl, QC.refl hI⟩
  · skip
    refine u_iload_n (pc' := 13) (i := 3) (by rfl) (by rfl) dX11_entered_12 rfl ?_
    refine u_if_lt (pc' := 16) (t := 21) dX11_entered_13 rfl rfl (fun c_13 => ?_) (fun c_13 => ?_)
    · skip
      refine u_throw (i := 185) dX11_entered_21 ?_
      exact Or.inr ⟨by omega, rfl, QC.refl hI⟩
    · skip
      refine u_iload_n (pc' := 17) (i := 3) (by rfl) (by rfl) dX11_entered_16 rfl ?_
      refine u_iconst (pc' := 18) (by decide) dX11_entered_17 rfl ?_
      refine u_icmp_le (pc' := 21) (t := 31) dX11_entered_18 rfl rfl (fun c_18 => ?_) (fun c_18 => ?_)
      · skip
        refine u_iload_n (pc' := 32) (i := 3) (by rfl) (by rfl) dX11_entered_31 rfl ?_
        refine u_if_ne (pc' := 35) (t := 53) dX11_entered_32 rfl rfl (fun c_32 => ?_) (fun c_32 => ?_)
        · skip
          refine u_aload_n (pc' := 54) (i := 0) (by rfl) (by rfl) dX11_entered_53 rfl ?_
          refine u_getS (pc' := 57) (q := 112) fg_X11_76 kd_0 sf_X11_12 gr_0_12 dX11_entered_54 rfl ?_
          refine u_iload_n (pc' := 58) (i := 1) (by rfl) (by rfl) dX11_entered_57 rfl ?_
          refine uv_callVE (pc' := 61) (st' := [gI (PN σ0 (σ0 114 e) (σ0 3 2).toNat)]) (d' := 3) (av := [gI e]) mi_mX6_bearersOf lk_X11_248 rfl ci_X6 kd_112 rfl (Nat.le_of_ble_eq_true rfl) (Nat.le_of_ble_eq_true rfl) dX11_entered_58 rfl rfl (kj_bearersOf hI (QC.refl hI) e (by omega)) ?_
          refine u_istore (pc' := 63) (ls' := [gR 0, gI e, gI t, gI w, gI (PN σ0 (σ0 114 e) (σ0 3 2).toNat)]) (by decide) (by rfl) dX11_entered_61 rfl ?_
          refine u_iload_n (pc' := 64) (i := 3) (by rfl) (by rfl) dX11_entered_63 rfl ?_
          refine u_iconst (pc' := 65) (by decide) dX11_entered_64 rfl ?_
          refine u_icmp_ne (pc' := 68) (t := 71) dX11_entered_65 rfl rfl (fun c_65 => ?_) (fun c_65 => ?_)
          · skip
            refine u_iload (pc' := 73) (by rfl) dX11_entered_71 rfl ?_
            refine u_iconst (pc' := 74) (by decide) dX11_entered_73 rfl ?_
            refine u_icmp_ne (pc' := 77) (t := 81) dX11_entered_74 rfl rfl (fun c_74 => ?_) (fun c_74 => ?_)
            · skip
              refine u_iconst (pc' := 82) (by decide) dX11_entered_81 rfl ?_
              refine uv_ireturn rfl dX11_entered_82 ?_
              first | (exfalso; omega) | exact Or.inl ⟨by omega, (by rw [show w = 1 by omega]; first | exact ENT_t (by omega) | exact ENT_f (by omega)), QC.refl hI⟩
            · skip
              refine u_iconst (pc' := 78) (by decide) dX11_entered_77 rfl ?_
              refine u_goto (pc' := 82) dX11_entered_78 rfl ?_
              refine uv_ireturn rfl dX11_entered_82 ?_
              first | (exfalso; omega) | exact Or.inl ⟨by omega, (by rw [show w = 1 by omega]; first | exact ENT_t (by omega) | exact ENT_f (by omega)), QC.refl hI⟩
          · skip
            refine u_iload (pc' := 70) (by rfl) dX11_entered_68 rfl ?_
            refine uv_ireturn rfl dX11_entered_70 ?_
            exact Or.inl ⟨by omega, by rw [show w = 2 by omega]; rfl, QC.refl hI⟩
        · skip
          refine u_aload_n (pc' := 36) (i := 0) (by rfl) (by rfl) dX11_entered_35 rfl ?_
          refine u_getS (pc' := 39) (q := 112) fg_X11_76 kd_0 sf_X11_12 gr_0_12 dX11_entered_36 rfl ?_
          refine u_iload_n (pc' := 40) (i := 2) (by rfl) (by rfl) dX11_entered_39 rfl ?_
          refine u_callV (pc' := 43) (d' := 6) (av := [gI t]) mi_mX6_join lk_X11_239 rfl ci_X6 kd_112 rfl (Nat.le_of_ble_eq_true rfl) (Nat.le_of_ble_eq_true rfl) dX11_entered_40 rfl (kj_join hI (QC.refl hI) t) (fun v_40 σ40 q_40 => ?_)
          obtain ⟨rfl, hq_40, hj_40⟩ := q_40
          show Up _ _ _ _ _ _ [gI (szM (σ0 112 8) (LXM (σ0 112 8) (σ0 41 11) (fitP σ0 t)))]
          refine u_pop (pc' := 44) dX11_entered_43 rfl ?_
          refine u_aload_n (pc' := 45) (i := 0) (by rfl) (by rfl) dX11_entered_44 rfl ?_
          refine u_getS (pc' := 48) (q := 112) fg_X11_76 kd_0 sf_X11_12 gr_0_12 dX11_entered_45 rfl ?_
          refine u_iload_n (pc' := 49) (i := 1) (by rfl) (by rfl) dX11_entered_48 rfl ?_
          refine uv_callVE (pc' := 52) (st' := [gI (σ40 121 e)]) (d' := 1) (av := [gI e]) mi_mX6_giftJoined lk_X11_245 rfl ci_X6 kd_112 rfl (Nat.le_of_ble_eq_true rfl) (Nat.le_of_ble_eq_true rfl) dX11_entered_49 rfl rfl (kj_giftJoined (σ := σ40) e (by omega) (show e < σ40 112 8 from by rw [(hq_40).rd (k := 112) (i := 8) (.inr rfl)]; omega)) ?_
          refine uv_ireturn rfl dX11_entered_52 ?_
          exact Or.inl ⟨by omega, by rw [show w = 0 by omega]; exact congrArg gI (hj_40 e (by omega) (by omega)), hq_40⟩
      · skip
        refine u_throw (i := 185) dX11_entered_21 ?_
        exact Or.inr ⟨by omega, rfl, QC.refl hI⟩
theorem m_entered {σ0 : gH} (hI : Inv σ0) (e t w : Int) : Mt mX12_entered 30 [gR 133, gI e, gI t, gI w] σ0 (fun v σ' => (((((0 ≤ e ∧ e < σ0 112 8) ∧ σ0 117 e ≤ t) ∧ 0 ≤ w ∧ w ≤ 2) ∧ v = gI (ENT σ0 e t w) ∧ σ' 133 0 = 0) ∨ (¬ (((0 ≤ e ∧ e < σ0 112 8) ∧ σ0 117 e ≤ t) ∧ 0 ≤ w ∧ w ≤ 2) ∧ v = gI 0 ∧ σ' 133 0 = 1)) ∧ QM σ0 σ' ∧ σ' 208 = σ0 208) := by
  refine Mt.walk (ls := [gR 133, gI e, gI t, gI w, gX 1, gX 1]) pn_X12 rfl (fun _ _ h => by rcases h.1 with h | h <;> cases h.2.1) (Nat.le_of_ble_eq_true rfl) rfl ?_
  have hen0 := hI.f.ent.2.1
  have hen := hI.f.ent.2.2.1
  have hp := hI.f.hp
  have hp0 := hI.f.party.2.1
  refine w_iload_n (pc' := 1) (i := 1) (by rfl) (by rfl) dX12_entered_0 rfl ?_
  refine w_if_lt (pc' := 4) (t := 31) dX12_entered_1 rfl rfl (fun c_1 => ?_) (fun c_1 => ?_)
  · skip
    refine w_aload_n (pc' := 32) (i := 0) (by rfl) (by rfl) dX12_entered_31 rfl ?_
    refine v_callVE (pc' := 35) (st' := [gI 0]) (d' := 0) (av := []) mi_mX12_refuse lk_X12_368 rfl ci_X12 kd_133 rfl (Nat.le_of_ble_eq_true rfl) (Nat.le_of_ble_eq_true rfl) dX12_entered_32 rfl rfl (q_refuse σ0) ?_
    refine v_ireturn rfl dX12_entered_35 ?_
    exact ⟨Or.inr ⟨by omega, rfl, rfl⟩, (QM.up (QM.refl hI) (by decide) (fun h => h)), rfl⟩
  · skip
    refine w_iload_n (pc' := 5) (i := 1) (by rfl) (by rfl) dX12_entered_4 rfl ?_
    refine w_aload_n (pc' := 6) (i := 0) (by rfl) (by rfl) dX12_entered_5 rfl ?_
    refine v_getI (pc' := 9) (ji := 99) rfl fg_X12_562 kd_133 dX12_entered_6 rfl ?_
    rw [hI.f99]
    refine w_icmp_ge (pc' := 12) (t := 31) dX12_entered_9 rfl rfl (fun c_9 => ?_) (fun c_9 => ?_)
    · skip
      refine w_aload_n (pc' := 32) (i := 0) (by rfl) (by rfl) dX12_entered_31 rfl ?_
      refine v_callVE (pc' := 35) (st' := [gI 0]) (d' := 0) (av := []) mi_mX12_refuse lk_X12_368 rfl ci_X12 kd_133 rfl (Nat.le_of_ble_eq_true rfl) (Nat.le_of_ble_eq_true rfl) dX12_entered_32 rfl rfl (q_refuse σ0) ?_
      refine v_ireturn rfl dX12_entered_35 ?_
      exact ⟨Or.inr ⟨by omega, rfl, rfl⟩, (QM.up (QM.refl hI) (by decide) (fun h => h)), rfl⟩
    · skip
      refine w_aload_n (pc' := 13) (i := 0) (by rfl) (by rfl) dX12_entered_12 rfl ?_
      refine w_getS (pc' := 16) (q := 195) fg_X12_205 kd_133 sf_X12_97 gr_133_97 dX12_entered_13 rfl ?_
      refine w_iload_n (pc' := 17) (i := 1) (by rfl) (by rfl) dX12_entered_16 rfl ?_
      refine w_iald (pc' := 18) kd_195 (by omega) (by omega) dX12_entered_17 rfl ?_
      rw [hI.e195 (i := e) (by omega) (by omega)]
      refine w_iload_n (pc' := 19) (i := 2) (by rfl) (by rfl) dX12_entered_18 rfl ?_
      refine w_icmp_gt (pc' := 22) (t := 31) dX12_entered_19 rfl rfl (fun c_19 => ?_) (fun c_19 => ?_)
      · skip
        refine w_aload_n (pc' := 32) (i := 0) (by rfl) (by rfl) dX12_entered_31 rfl ?_
        refine v_callVE (pc' := 35) (st' := [gI 0]) (d' := 0) (av := []) mi_mX12_refuse lk_X12_368 rfl ci_X12 kd_133 rfl (Nat.le_of_ble_eq_true rfl) (Nat.le_of_ble_eq_true rfl) dX12_entered_32 rfl rfl (q_refuse σ0) ?_
        refine v_ireturn rfl dX12_entered_35 ?_
        exact ⟨Or.inr ⟨by omega, rfl, rfl⟩, (QM.up (QM.refl hI) (by decide) (fun h => h)), rfl⟩
      · skip
        refine w_iload_n (pc' := 23) (i := 3) (by rfl) (by rfl) dX12_entered_22 rfl ?_
        refine w_if_lt (pc' := 26) (t := 31) dX12_entered_23 rfl rfl (fun c_23 => ?_) (fun c_23 => ?_)
        · skip
          refine w_aload_n (pc' := 32) (i := 0) (by rfl) (by rfl) dX12_entered_31 rfl ?_
          refine v_callVE (pc' := 35) (st' := [gI 0]) (d' := 0) (av := []) mi_mX12_refuse lk_X12_368 rfl ci_X12 kd_133 rfl (Nat.le_of_ble_eq_true rfl) (Nat.le_of_ble_eq_true rfl) dX12_entered_32 rfl rfl (q_refuse σ0) ?_
          refine v_ireturn rfl dX12_entered_35 ?_
          exact ⟨Or.inr ⟨by omega, rfl, rfl⟩, (QM.up (QM.refl hI) (by decide) (fun h => h)), rfl⟩
        · skip
          refine w_iload_n (pc' := 27) (i := 3) (by rfl) (by rfl) dX12_entered_26 rfl ?_
          refine w_iconst (pc' := 28) (by decide) dX12_entered_27 rfl ?_
          refine w_icmp_le (pc' := 31) (t := 36) dX12_entered_28 rfl rfl (fun c_28 => ?_) (fun c_28 => ?_)
          · skip
            refine w_aload_n (pc' := 37) (i := 0) (by rfl) (by rfl) dX12_entered_36 rfl ?_
            refine w_iconst (pc' := 38) (by decide) dX12_entered_37 rfl ?_
            refine v_putI (pc' := 41) (ji := 0) rfl fp_X12_244 kd_133 sf_X12_0 dX12_entered_38 rfl ?_
            refine w_iconst (pc' := 42) (by decide) dX12_entered_41 rfl ?_
            refine w_istore (pc' := 44) (ls' := [gR 133, gI e, gI t, gI w, gI 0, gX 1]) (by decide) (by rfl) dX12_entered_42 rfl ?_
            refine w_iconst (pc' := 45) (by decide) dX12_entered_44 rfl ?_
            refine w_istore (pc' := 47) (ls' := [gR 133, gI e, gI t, gI w, gI 0, gI 0]) (by decide) (by rfl) dX12_entered_45 rfl ?_
            have hl_47 : ∀ (mm : Nat) (m x : Int), (σ0 3 2 - x).toNat = mm → (0 ≤ x) → (x ≤ σ0 3 2) → (m = PN σ0 (σ0 114 e) x.toNat) → Wp mX12_entered 30 (fun v σ' => (((((0 ≤ e ∧ e < σ0 112 8) ∧ σ0 117 e ≤ t) ∧ 0 ≤ w ∧ w ≤ 2) ∧ v = gI (ENT σ0 e t w) ∧ σ' 133 0 = 0) ∨ (¬ (((0 ≤ e ∧ e < σ0 112 8) ∧ σ0 117 e ≤ t) ∧ 0 ≤ w ∧ w ≤ 2) ∧ v = gI 0 ∧ σ' 133 0 = 1)) ∧ QM σ0 σ' ∧ σ' 208 = σ0 208) (gUp σ0 133 0 0) 47 [gR 133, gI e, gI t, gI w, gI m, gI x] [] := by
              intro m_47
              induction m_47 using Nat.strongRecOn with
              | _ m_47 ih_47 =>
                intro m x hmeas_47 x0 x1 hm
                have es := PN_s (σ := σ0) (n := σ0 114 e) x0
                have pi := PN_in (σ := σ0) (n := σ0 114 e) x.toNat
                have hnm := fun h : x < σ0 3 2 => nm_both hI (show 0 ≤ e by omega) (show e < σ0 112 8 by omega) x0 h
                have hc := gCmp_eq (x := σ0 136 x) (y := σ0 196 e)
                have h4 := fun h : x < σ0 3 2 => hI.e135 x0 h
                refine w_iload (pc' := 49) (by rfl) dX12_entered_47 rfl ?_
                refine w_aload_n (pc' := 50) (i := 0) (by rfl) (by rfl) dX12_entered_49 rfl ?_
                refine v_getI (pc' := 53) (ji := 6) rfl fg_X12_273 kd_133 dX12_entered_50 rfl ?_
                show Wp _ _ _ _ _ _ [gI (σ0 133 6), gI x]
                rw [hI.f6]
                refine w_icmp_ge (pc' := 56) (t := 92) dX12_entered_53 rfl rfl (fun c_53 => ?_) (fun c_53 => ?_)
                · skip
                  refine w_iload_n (pc' := 93) (i := 3) (by rfl) (by rfl) dX12_entered_92 rfl ?_
                  refine w_if_le (pc' := 96) (t := 118) dX12_entered_93 rfl rfl (fun c_93 => ?_) (fun c_93 => ?_)
                  · skip
                    refine w_aload_n (pc' := 119) (i := 0) (by rfl) (by rfl) dX12_entered_118 rfl ?_
                    refine w_iload_n (pc' := 120) (i := 2) (by rfl) (by rfl) dX12_entered_119 rfl ?_
                    refine w_callV (pc' := 123) (d' := 4) (av := [gI t]) mi_mX12_join lk_X12_580 rfl ci_X12 kd_133 rfl (Nat.le_of_ble_eq_true rfl) (Nat.le_of_ble_eq_true rfl) dX12_entered_120 rfl (q_join hI (QM.up (k := 133) (i := 0) (v := 0) (QM.refl hI) (by decide) (fun h => h)) t) (fun v_120 σ120 q_120 => ?_)
                    obtain ⟨rfl, hq_120, hi_120, h0_120, h8_120⟩ := q_120
                    show Wp _ _ _ _ _ _ []
                    refine w_aload_n (pc' := 124) (i := 0) (by rfl) (by rfl) dX12_entered_123 rfl ?_
                    refine w_getS (pc' := 127) (q := 199) fg_X12_217 kd_133 sf_X12_102 gr_133_102 dX12_entered_124 rfl ?_
                    refine w_iload_n (pc' := 128) (i := 1) (by rfl) (by rfl) dX12_entered_127 rfl ?_
                    refine w_iald (pc' := 129) kd_199 (by omega) (by omega) dX12_entered_128 rfl ?_
                    refine v_ireturn rfl dX12_entered_129 ?_
                    exact ⟨Or.inl ⟨by omega, by rw [show w = 0 by omega]; exact congrArg gI ((LXM_eq hi_120).1 e (by omega) (by omega)), h0_120⟩, hq_120, h8_120⟩
                  · skip
                    refine w_iload_n (pc' := 97) (i := 3) (by rfl) (by rfl) dX12_entered_96 rfl ?_
                    refine w_iconst (pc' := 98) (by decide) dX12_entered_97 rfl ?_
                    refine w_icmp_ne (pc' := 101) (t := 115) dX12_entered_98 rfl rfl (fun c_98 => ?_) (fun c_98 => ?_)
                    · skip
                      refine w_iload (pc' := 117) (by rfl) dX12_entered_115 rfl ?_
                      refine v_ireturn rfl dX12_entered_117 ?_
                      first | (exfalso; omega) | exact ⟨Or.inl ⟨by omega, (by rw [hm, show x = σ0 3 2 by omega] ; rw [show w = 2 by omega]; rfl), rfl⟩, (QM.up (QM.refl hI) (by decide) (fun h => h)), rfl⟩ | exact ⟨Or.inl ⟨by omega, (by rw [show w = 1 by omega]; rw [show x = σ0 3 2 by omega] at hm; first | exact ENT_t (by omega) | exact ENT_f (by omega)), rfl⟩, (QM.up (QM.refl hI) (by decide) (fun h => h)), rfl⟩
                    · skip
                      refine w_iload (pc' := 103) (by rfl) dX12_entered_101 rfl ?_
                      refine w_iconst (pc' := 104) (by decide) dX12_entered_103 rfl ?_
                      refine w_icmp_ne (pc' := 107) (t := 111) dX12_entered_104 rfl rfl (fun c_104 => ?_) (fun c_104 => ?_)
                      · skip
                        refine w_iconst (pc' := 112) (by decide) dX12_entered_111 rfl ?_
                        refine w_goto (pc' := 117) dX12_entered_112 rfl ?_
                        refine v_ireturn rfl dX12_entered_117 ?_
                        first | (exfalso; omega) | exact ⟨Or.inl ⟨by omega, (by rw [hm, show x = σ0 3 2 by omega] ; rw [show w = 2 by omega]; rfl), rfl⟩, (QM.up (QM.refl hI) (by decide) (fun h => h)), rfl⟩ | exact ⟨Or.inl ⟨by omega, (by rw [show w = 1 by omega]; rw [show x = σ0 3 2 by omega] at hm; first | exact ENT_t (by omega) | exact ENT_f (by omega)), rfl⟩, (QM.up (QM.refl hI) (by decide) (fun h => h)), rfl⟩
                      · skip
                        refine w_iconst (pc' := 108) (by decide) dX12_entered_107 rfl ?_
                        refine w_goto (pc' := 117) dX12_entered_108 rfl ?_
                        refine v_ireturn rfl dX12_entered_117 ?_
                        first | (exfalso; omega) | exact ⟨Or.inl ⟨by omega, (by rw [hm, show x = σ0 3 2 by omega] ; rw [show w = 2 by omega]; rfl), rfl⟩, (QM.up (QM.refl hI) (by decide) (fun h => h)), rfl⟩ | exact ⟨Or.inl ⟨by omega, (by rw [show w = 1 by omega]; rw [show x = σ0 3 2 by omega] at hm; first | exact ENT_t (by omega) | exact ENT_f (by omega)), rfl⟩, (QM.up (QM.refl hI) (by decide) (fun h => h)), rfl⟩
                · skip
                  refine w_aload_n (pc' := 57) (i := 0) (by rfl) (by rfl) dX12_entered_56 rfl ?_
                  refine w_getS (pc' := 60) (q := 135) fg_X12_13 kd_133 sf_X12_4 gr_133_4 dX12_entered_57 rfl ?_
                  refine w_iload (pc' := 62) (by rfl) dX12_entered_60 rfl ?_
                  refine w_iald (pc' := 63) kd_135 (by omega) (by omega) dX12_entered_62 rfl ?_
                  show Wp _ _ _ _ _ _ [gI (σ0 135 x)]
                  rw [hI.e135 (i := x) (by omega) (by omega)]
                  refine w_if_ne (pc' := 66) (t := 86) dX12_entered_63 rfl rfl (fun c_63 => ?_) (fun c_63 => ?_)
                  · skip
                    refine v_iinc (pc' := 89) (x := x) (ls' := [gR 133, gI e, gI t, gI w, gI m, gI (x + 1)]) (by omega) (by decide) (by rfl) (by rfl) dX12_entered_86 rfl ?_
                    refine w_goto (pc' := 47) dX12_entered_89 rfl ?_
                    exact ih_47 _ (by omega) m (x + 1) rfl (by omega) (by omega) (by have := hnm (by omega); rw [es]; first | (rw [gb_t (by omega)]; omega) | (rw [gb_f (by omega)]; omega))
                  · skip
                    refine w_aload_n (pc' := 67) (i := 0) (by rfl) (by rfl) dX12_entered_66 rfl ?_
                    refine w_getS (pc' := 70) (q := 136) fg_X12_16 kd_133 sf_X12_5 gr_133_5 dX12_entered_67 rfl ?_
                    refine w_iload (pc' := 72) (by rfl) dX12_entered_70 rfl ?_
                    refine w_lald (pc' := 73) kd_136 (by omega) (by omega) dX12_entered_72 rfl ?_
                    show Wp _ _ _ _ _ _ [gJ (σ0 136 x)]
                    refine w_aload_n (pc' := 74) (i := 0) (by rfl) (by rfl) dX12_entered_73 rfl ?_
                    refine w_getS (pc' := 77) (q := 196) fg_X12_208 kd_133 sf_X12_98 gr_133_98 dX12_entered_74 rfl ?_
                    refine w_iload_n (pc' := 78) (i := 1) (by rfl) (by rfl) dX12_entered_77 rfl ?_
                    refine w_lald (pc' := 79) kd_196 (by omega) (by omega) dX12_entered_78 rfl ?_
                    show Wp _ _ _ _ _ _ [gJ (σ0 196 e), gJ (σ0 136 x)]
                    refine w_lcmp (pc' := 80) dX12_entered_79 rfl ?_
                    refine w_if_ne (pc' := 83) (t := 86) dX12_entered_80 rfl rfl (fun c_80 => ?_) (fun c_80 => ?_)
                    · skip
                      refine v_iinc (pc' := 89) (x := x) (ls' := [gR 133, gI e, gI t, gI w, gI m, gI (x + 1)]) (by omega) (by decide) (by rfl) (by rfl) dX12_entered_86 rfl ?_
                      refine w_goto (pc' := 47) dX12_entered_89 rfl ?_
                      exact ih_47 _ (by omega) m (x + 1) rfl (by omega) (by omega) (by have := hnm (by omega); rw [es]; first | (rw [gb_t (by omega)]; omega) | (rw [gb_f (by omega)]; omega))
                    · skip
                      refine v_iinc (pc' := 86) (x := m) (ls' := [gR 133, gI e, gI t, gI w, gI (m + 1), gI x]) (by omega) (by decide) (by rfl) (by rfl) dX12_entered_83 rfl ?_
                      refine v_iinc (pc' := 89) (x := x) (ls' := [gR 133, gI e, gI t, gI w, gI (m + 1), gI (x + 1)]) (by omega) (by decide) (by rfl) (by rfl) dX12_entered_86 rfl ?_
                      refine w_goto (pc' := 47) dX12_entered_89 rfl ?_
                      exact ih_47 _ (by omega) (m + 1) (x + 1) rfl (by omega) (by omega) (by have := hnm (by omega); rw [es]; first | (rw [gb_t (by omega)]; omega) | (rw [gb_f (by omega)]; omega))
            exact hl_47 _ 0 0 rfl (by omega) (by omega) (by rfl)
          · skip
            refine w_aload_n (pc' := 32) (i := 0) (by rfl) (by rfl) dX12_entered_31 rfl ?_
            refine v_callVE (pc' := 35) (st' := [gI 0]) (d' := 0) (av := []) mi_mX12_refuse lk_X12_368 rfl ci_X12 kd_133 rfl (Nat.le_of_ble_eq_true rfl) (Nat.le_of_ble_eq_true rfl) dX12_entered_32 rfl rfl (q_refuse σ0) ?_
            refine v_ireturn rfl dX12_entered_35 ?_
            exact ⟨Or.inr ⟨by omega, rfl, rfl⟩, (QM.up (QM.refl hI) (by decide) (fun h => h)), rfl⟩
theorem cx_entered (e t w : Int) : CX Inv (fun y => gI y) mL_entered [(0, 12, 15, 13)] mX12_entered [gI e, gI t, gI w] := by
  refine CX_query (fun σ0 => ((0 ≤ e ∧ e < σ0 112 8) ∧ σ0 117 e ≤ t) ∧ 0 ≤ w ∧ w ≤ 2) (fun σ0 => ENT σ0 e t w) (fun σ0 kk hg hI hk => ?_) (fun σ0 hI => m_entered hI e t w) (fun _ => rfl) (fun _ => rfl) (fun _ _ => rfl) (fun _ _ => rfl) (fun σ h z => gGr_208 h z)
  exact wr_entered (k := kk) (r := ENT σ0 e t w) (J0 := fun σ1 => gGr σ1 ∧ QC σ0 σ1) (by rcases hk with h | h; exact Or.inl h.1; exact Or.inr h.1) (gMx_walk (M := mX11_entered) (P := ((0 ≤ e ∧ e < σ0 112 8) ∧ σ0 117 e ≤ t) ∧ 0 ≤ w ∧ w ≤ 2) (v0 := gI (ENT σ0 e t w)) (J := fun σ1 => QC σ0 σ1) pn_GR rfl site_entered (fun _ h => by cases h) (Nat.le_of_ble_eq_true rfl) (show gEnt _ _ = [gR 0, gI e, gI t, gI w, gX 1] from rfl) hg hk (xu_entered hI e t w))
