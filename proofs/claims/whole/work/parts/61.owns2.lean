/-! owns: the reference, the call (gen/mod_owns2.py) -/
theorem mo_isOn0 (σ : gH) (f w d : Int) : Mt mX12_isOn 0 [gI f, gI w, gI d] σ (rE (gI (gb (f ≤ d ∧ (w = 2147483647 ∨ d < w)))) σ) := by
  refine Mt.walk (ls := [gI f, gI w, gI d]) pn_X12 rfl (fun _ _ h => by cases h.1) (Nat.le_of_ble_eq_true rfl) rfl ?_
  refine w_iload_n (pc' := 1) (i := 0) (by rfl) (by rfl) dX12_isOn_0 rfl ?_
  refine w_iload_n (pc' := 2) (i := 2) (by rfl) (by rfl) dX12_isOn_1 rfl ?_
  refine w_icmp_gt (pc' := 5) (t := 21) dX12_isOn_2 rfl rfl (fun c_2 => ?_) (fun c_2 => ?_)
  · skip
    refine w_iconst (pc' := 22) (by decide) dX12_isOn_21 rfl ?_
    refine w_zreturn rfl (.inl rfl) dX12_isOn_22 ?_
    first | (exfalso; omega) | exact ⟨gbT (by omega), rfl⟩ | exact ⟨gbF (by omega), rfl⟩
  · skip
    refine w_iload_n (pc' := 6) (i := 1) (by rfl) (by rfl) dX12_isOn_5 rfl ?_
    refine w_ldc_w (pc' := 9) (by decide) ct_X12_282 dX12_isOn_6 rfl ?_
    refine w_icmp_eq (pc' := 12) (t := 17) dX12_isOn_9 rfl rfl (fun c_9 => ?_) (fun c_9 => ?_)
    · skip
      refine w_iconst (pc' := 18) (by decide) dX12_isOn_17 rfl ?_
      refine w_goto (pc' := 22) dX12_isOn_18 rfl ?_
      refine w_zreturn rfl (.inr rfl) dX12_isOn_22 ?_
      first | (exfalso; omega) | exact ⟨gbT (by omega), rfl⟩ | exact ⟨gbF (by omega), rfl⟩
    · skip
      refine w_iload_n (pc' := 13) (i := 2) (by rfl) (by rfl) dX12_isOn_12 rfl ?_
      refine w_iload_n (pc' := 14) (i := 1) (by rfl) (by rfl) dX12_isOn_13 rfl ?_
      refine w_icmp_ge (pc' := 17) (t := 21) dX12_isOn_14 rfl rfl (fun c_14 => ?_) (fun c_14 => ?_)
      · skip
        refine w_iconst (pc' := 22) (by decide) dX12_isOn_21 rfl ?_
        refine w_zreturn rfl (.inl rfl) dX12_isOn_22 ?_
        first | (exfalso; omega) | exact ⟨gbT (by omega), rfl⟩ | exact ⟨gbF (by omega), rfl⟩
      · skip
        refine w_iconst (pc' := 18) (by decide) dX12_isOn_17 rfl ?_
        refine w_goto (pc' := 22) dX12_isOn_18 rfl ?_
        refine w_zreturn rfl (.inr rfl) dX12_isOn_22 ?_
        first | (exfalso; omega) | exact ⟨gbT (by omega), rfl⟩ | exact ⟨gbF (by omega), rfl⟩
abbrev amT (σ : gH) (f d i : Int) : Int := if σ 138 i = f ∧ σ 140 i ≤ d ∧ (σ 141 i = 2147483647 ∨ d < σ 141 i) then σ 139 i else 0
theorem q_allOn0 (σ : gH) (hN : 0 ≤ σ 133 14 ∧ σ 133 14 ≤ 200) (hR : ∀ i, 0 ≤ i → i < σ 133 14 → 0 ≤ σ 139 i ∧ σ 139 i ≤ 10000) (f d : Int) : Mt mX12_allOn 1 [gR 133, gI f, gI d] σ (rE (gI (sumI (fun i => amT σ f d i) (σ 133 14).toNat)) σ) := by
  refine Mt.walk (ls := [gR 133, gI f, gI d, gX 1, gX 1]) pn_X12 rfl (fun _ _ h => by cases h.1) (Nat.le_of_ble_eq_true rfl) rfl ?_
  refine w_iconst (pc' := 1) (by decide) dX12_allOn_0 rfl ?_
  refine w_istore_n (pc' := 2) (i := 3) (ls' := [gR 133, gI f, gI d, gI 0, gX 1]) (by rfl) (by decide) (by rfl) dX12_allOn_1 rfl ?_
  refine w_iconst (pc' := 3) (by decide) dX12_allOn_2 rfl ?_
  refine w_istore (pc' := 5) (ls' := [gR 133, gI f, gI d, gI 0, gI 0]) (by decide) (by rfl) dX12_allOn_3 rfl ?_
  have hl_5 : ∀ (mm : Nat) (i s : Int), (σ 133 14 - i).toNat = mm → (0 ≤ i) → (i ≤ σ 133 14) → (s = sumI (fun i => amT σ f d i) i.toNat) → (0 ≤ s ∧ s ≤ 10000 * i) → Wp mX12_allOn 1 (rE (gI (sumI (fun i => amT σ f d i) (σ 133 14).toNat)) σ) σ 5 [gR 133, gI f, gI d, gI s, gI i] [] := by
    intro m_5
    induction m_5 using Nat.strongRecOn with
    | _ m_5 ih_5 =>
      intro i s hmeas_5 h0 h1 hv hb
      have hrow := fun h : i < σ 133 14 => hR i h0 h
      refine w_iload (pc' := 7) (by rfl) dX12_allOn_5 rfl ?_
      refine w_aload_n (pc' := 8) (i := 0) (by rfl) (by rfl) dX12_allOn_7 rfl ?_
      refine v_getI (pc' := 11) (ji := 14) rfl fg_X12_283 kd_133 dX12_allOn_8 rfl ?_
      refine w_icmp_ge (pc' := 14) (t := 62) dX12_allOn_11 rfl rfl (fun c_11 => ?_) (fun c_11 => ?_)
      · skip
        refine w_iload_n (pc' := 63) (i := 3) (by rfl) (by rfl) dX12_allOn_62 rfl ?_
        refine v_ireturn rfl dX12_allOn_63 ?_
        have e : i = σ 133 14 := by omega
        exact ⟨congrArg gI (by rw [hv, e]), rfl⟩
      · skip
        refine w_aload_n (pc' := 15) (i := 0) (by rfl) (by rfl) dX12_allOn_14 rfl ?_
        refine w_getS (pc' := 18) (q := 138) fg_X12_27 kd_133 sf_X12_9 gr_133_9 dX12_allOn_15 rfl ?_
        refine w_iload (pc' := 20) (by rfl) dX12_allOn_18 rfl ?_
        refine w_iald (pc' := 21) kd_138 (by (first | omega | (have := hrow (by omega); omega))) (by (first | omega | (have := hrow (by omega); omega))) dX12_allOn_20 rfl ?_
        refine w_iload_n (pc' := 22) (i := 1) (by rfl) (by rfl) dX12_allOn_21 rfl ?_
        refine w_icmp_ne (pc' := 25) (t := 56) dX12_allOn_22 rfl rfl (fun c_22 => ?_) (fun c_22 => ?_)
        · skip
          refine v_iinc (pc' := 59) (x := i) (ls' := [gR 133, gI f, gI d, gI s, gI (i + 1)]) (by (first | omega | (have := hrow (by omega); omega))) (by decide) (by rfl) (by rfl) dX12_allOn_56 rfl ?_
          refine w_goto (pc' := 5) dX12_allOn_59 rfl ?_
          exact ih_5 _ (by omega) (i + 1) s rfl (by omega) (by omega) (by rw [sumI_s h0, hv]; unfold amT; first | (rw [if_neg (by omega)]; omega) | (rw [if_pos (by omega)])) (by have := hrow (by omega); omega)
        · skip
          refine w_aload_n (pc' := 26) (i := 0) (by rfl) (by rfl) dX12_allOn_25 rfl ?_
          refine w_getS (pc' := 29) (q := 140) fg_X12_33 kd_133 sf_X12_11 gr_133_11 dX12_allOn_26 rfl ?_
          refine w_iload (pc' := 31) (by rfl) dX12_allOn_29 rfl ?_
          refine w_iald (pc' := 32) kd_140 (by (first | omega | (have := hrow (by omega); omega))) (by (first | omega | (have := hrow (by omega); omega))) dX12_allOn_31 rfl ?_
          refine w_aload_n (pc' := 33) (i := 0) (by rfl) (by rfl) dX12_allOn_32 rfl ?_
          refine w_getS (pc' := 36) (q := 141) fg_X12_36 kd_133 sf_X12_12 gr_133_12 dX12_allOn_33 rfl ?_
          refine w_iload (pc' := 38) (by rfl) dX12_allOn_36 rfl ?_
          refine w_iald (pc' := 39) kd_141 (by (first | omega | (have := hrow (by omega); omega))) (by (first | omega | (have := hrow (by omega); omega))) dX12_allOn_38 rfl ?_
          refine w_iload_n (pc' := 40) (i := 2) (by rfl) (by rfl) dX12_allOn_39 rfl ?_
          refine v_callSE (pc' := 43) (st' := [gI (gb (σ 140 i ≤ d ∧ ((σ 141 i) = 2147483647 ∨ d < (σ 141 i))))]) (d' := 0) (av := [gI (σ 140 i), gI (σ 141 i), gI d]) ms_mX12_isOn st_mX12_isOn lk_X12_286 rfl rfl (Nat.le_of_ble_eq_true rfl) (Nat.le_of_ble_eq_true rfl) dX12_allOn_40 rfl rfl (mo_isOn0 σ (σ 140 i) (σ 141 i) d) ?_
          refine v_if_eqB (pc' := 46) (t := 56) dX12_allOn_43 rfl rfl (fun c_43 => ?_) (fun c_43 => ?_)
          · skip
            refine v_iinc (pc' := 59) (x := i) (ls' := [gR 133, gI f, gI d, gI s, gI (i + 1)]) (by (first | omega | (have := hrow (by omega); omega))) (by decide) (by rfl) (by rfl) dX12_allOn_56 rfl ?_
            refine w_goto (pc' := 5) dX12_allOn_59 rfl ?_
            exact ih_5 _ (by omega) (i + 1) s rfl (by omega) (by omega) (by rw [sumI_s h0, hv]; unfold amT; first | (rw [if_neg (by omega)]; omega) | (rw [if_pos (by omega)])) (by have := hrow (by omega); omega)
          · skip
            refine w_iload_n (pc' := 47) (i := 3) (by rfl) (by rfl) dX12_allOn_46 rfl ?_
            refine w_aload_n (pc' := 48) (i := 0) (by rfl) (by rfl) dX12_allOn_47 rfl ?_
            refine w_getS (pc' := 51) (q := 139) fg_X12_30 kd_133 sf_X12_10 gr_133_10 dX12_allOn_48 rfl ?_
            refine w_iload (pc' := 53) (by rfl) dX12_allOn_51 rfl ?_
            refine w_iald (pc' := 54) kd_139 (by (first | omega | (have := hrow (by omega); omega))) (by (first | omega | (have := hrow (by omega); omega))) dX12_allOn_53 rfl ?_
            refine v_iadd (pc' := 55) (by (first | omega | (have := hrow (by omega); omega))) dX12_allOn_54 rfl ?_
            refine w_istore_n (pc' := 56) (i := 3) (ls' := [gR 133, gI f, gI d, gI (s + (σ 139 i)), gI i]) (by rfl) (by decide) (by rfl) dX12_allOn_55 rfl ?_
            refine v_iinc (pc' := 59) (x := i) (ls' := [gR 133, gI f, gI d, gI (s + (σ 139 i)), gI (i + 1)]) (by (first | omega | (have := hrow (by omega); omega))) (by decide) (by rfl) (by rfl) dX12_allOn_56 rfl ?_
            refine w_goto (pc' := 5) dX12_allOn_59 rfl ?_
            exact ih_5 _ (by omega) (i + 1) (s + (σ 139 i)) rfl (by omega) (by omega) (by rw [sumI_s h0, hv]; unfold amT; first | (rw [if_neg (by omega)]; omega) | (rw [if_pos (by omega)])) (by have := hrow (by omega); omega)
  exact hl_5 _ 0 0 rfl (by omega) (by omega) (by rfl) (by omega)
theorem q_allOn {σ : gH} (hI : Inv σ) (H : gH) (e14 : H 133 14 = σ 133 14) (e138 : H 138 = σ 138) (e139 : H 139 = σ 139) (e140 : H 140 = σ 140) (e141 : H 141 = σ 141) (f d : Int) : Mt mX12_allOn 1 [gR 133, gI f, gI d] H (rE (gI (ALL σ f d)) H) := by
  have n0 := hI.f.own.2.1
  have n1 := hI.f.own.2.2.1
  have f14 := hI.f14
  have k := q_allOn0 H (by omega) (fun i a b => by
    have b2 : i < σ 15 6 := by omega
    have r := own_row hI a b2
    rw [e139, hI.e139 a b2]; omega) f d
  have e : sumI (fun i => amT H f d i) (H 133 14).toNat = ALL σ f d := by
    unfold ALL
    rw [e14, f14]
    refine sumI_congr fun i a b => ?_
    have b2 : i < σ 15 6 := by omega
    unfold amT alT
    rw [e138, e139, e140, e141, hI.e138 a b2, hI.e139 a b2, hI.e140 a b2, hI.e141 a b2]
    have o := ev_on (u := σ 20 i) (d := d) (own_span hI a b2)
    by_cases c : σ 17 i = f ∧ σ 19 i ≤ d ∧ (σ 20 i = -1 ∨ d < σ 20 i)
    · rw [if_pos c, if_pos ⟨c.1, c.2.1, o.mpr c.2.2⟩]
    · rw [if_neg c, if_neg (fun x => c ⟨x.1, x.2.1, o.mp x.2.2⟩)]
  rw [e] at k
  exact k
theorem own_day {σ : gH} (hI : Inv σ) {r : Int} (h0 : 0 ≤ r) (h1 : r < σ 15 6) : 0 ≤ σ 19 r ∧ σ 19 r ≤ 9999 := ((hI.f.own.2.2.2 r h0 h1).2.2.2.2.2.2.2.2.2.2.2.1).1
set_option maxHeartbeats 2000000 in
theorem x_owns {σ : gH} (hI : Inv σ) (x f p a u : Int) : Mt mX11_owns 30 [gR 0, gI x, gI f, gI p, gI a, gI u] σ (fun v σ' => ((((0 ≤ x ∧ x < σ 3 2) ∧ ((0 ≤ f ∧ f < σ 3 2) ∧ σ 4 f ≠ 0) ∧ x ≠ f ∧ 1 ≤ p ∧ p ≤ 10000) ∧ ((0 ≤ a ∧ a ≤ 9999) ∧ (u = -1 ∨ (0 ≤ u ∧ u ≤ 9999) ∧ a + 1 ≤ u)) ∧ XC σ f p a u = 0 ∧ σ 15 6 < 200) ∧ v = gI (σ 15 6) ∧ ∃ O q, isIns (σ 15 6) q (σ 22) O ∧ (∀ i, q ≤ i → i < σ 15 6 → behP σ x f (σ 22 i)) ∧ (0 < q → ¬ behP σ x f (σ 22 (q - 1))) ∧ σ' = gUr (gUp (gUp (gUp (gUp (gUp (gUp (gUp σ 16 (σ 15 6) x) 17 (σ 15 6) f) 18 (σ 15 6) p) 19 (σ 15 6) a) 20 (σ 15 6) u) 21 (σ 15 6) (σ 0 4)) 15 6 (σ 15 6 + 1)) 22 O) ∨ (¬ (((0 ≤ x ∧ x < σ 3 2) ∧ ((0 ≤ f ∧ f < σ 3 2) ∧ σ 4 f ≠ 0) ∧ x ≠ f ∧ 1 ≤ p ∧ p ≤ 10000) ∧ ((0 ≤ a ∧ a ≤ 9999) ∧ (u = -1 ∨ (0 ≤ u ∧ u ≤ 9999) ∧ a + 1 ≤ u)) ∧ XC σ f p a u = 0 ∧ σ 15 6 < 200) ∧ v = gI (if ((0 ≤ x ∧ x < σ 3 2) ∧ ((0 ≤ f ∧ f < σ 3 2) ∧ σ 4 f ≠ 0) ∧ x ≠ f ∧ 1 ≤ p ∧ p ≤ 10000) then if ((0 ≤ a ∧ a ≤ 9999) ∧ (u = -1 ∨ (0 ≤ u ∧ u ≤ 9999) ∧ a + 1 ≤ u)) then if XC σ f p a u = 0 then -5 else -4 else -3 else -2) ∧ σ' = σ)) := by
  refine Mt.walk (ls := [gR 0, gI x, gI f, gI p, gI a, gI u]) pn_X11 rfl (fun _ _ h => by rcases h with h | h <;> exact absurd h.2.1 (by intro h; cases h)) (Nat.le_of_ble_eq_true rfl) rfl ?_
  have hday := hI.f.day
  unfold S_day at hday
  have hp := hI.f.hp
  have hp0 := hI.f.party.2.1
  have hT := hI.f.tape.2.1
  have hT2 := hI.f.tape.2.2.1
  have halla := ALL_in hI f a
  have hx01 := XC_01 σ f p a u
  have hn0 := hI.f.own.2.1
  have hn2 := hI.f.own.2.2.1
  refine w_aload_n (pc' := 1) (i := 0) (by rfl) (by rfl) dX11_owns_0 rfl ?_
  refine w_getS (pc' := 4) (q := 3) fg_X11_21 kd_0 sf_X11_5 gr_0_5 dX11_owns_1 rfl ?_
  refine w_iload_n (pc' := 5) (i := 1) (by rfl) (by rfl) dX11_owns_4 rfl ?_
  refine v_callVE (pc' := 8) (st' := [gI (gb (0 ≤ x ∧ x < (σ 3 2)))]) (d' := 0) (av := [gI x]) mi_mX8_has lk_X11_111 rfl ci_X8 kd_3 rfl (Nat.le_of_ble_eq_true rfl) (Nat.le_of_ble_eq_true rfl) dX11_owns_5 rfl rfl (pa_has σ (by first | exact hp | omega) x) ?_
  refine v_if_eqB (pc' := 11) (t := 39) dX11_owns_8 rfl rfl (fun c_8 => ?_) (fun c_8 => ?_)
  · skip
    refine w_bipush (pc' := 41) (by decide) (by decide) dX11_owns_39 rfl ?_
    refine v_ireturn rfl dX11_owns_41 ?_
    first
      | (exfalso; omega)
      | exact .inl ⟨by omega, rfl, O, q, hin, hb1, hb2, rfl⟩
      | exact .inr ⟨by omega, (by refine congrArg gI ?_; (repeat' split) <;> omega), rfl⟩
  · skip
    refine w_aload_n (pc' := 12) (i := 0) (by rfl) (by rfl) dX11_owns_11 rfl ?_
    refine w_getS (pc' := 15) (q := 3) fg_X11_21 kd_0 sf_X11_5 gr_0_5 dX11_owns_12 rfl ?_
    refine w_iload_n (pc' := 16) (i := 2) (by rfl) (by rfl) dX11_owns_15 rfl ?_
    refine v_callVE (pc' := 19) (st' := [gI (gb ((0 ≤ f ∧ f < (σ 3 2)) ∧ (σ 4 f) ≠ 0))]) (d' := 1) (av := [gI f]) mi_mX8_canBeHeld lk_X11_115 rfl ci_X8 kd_3 rfl (Nat.le_of_ble_eq_true rfl) (Nat.le_of_ble_eq_true rfl) dX11_owns_16 rfl rfl (pa_canBeHeld σ (by first | exact hp | omega) f) ?_
    refine v_if_eqB (pc' := 22) (t := 39) dX11_owns_19 rfl rfl (fun c_19 => ?_) (fun c_19 => ?_)
    · skip
      refine w_bipush (pc' := 41) (by decide) (by decide) dX11_owns_39 rfl ?_
      refine v_ireturn rfl dX11_owns_41 ?_
      first
        | (exfalso; omega)
        | exact .inl ⟨by omega, rfl, O, q, hin, hb1, hb2, rfl⟩
        | exact .inr ⟨by omega, (by refine congrArg gI ?_; (repeat' split) <;> omega), rfl⟩
    · skip
      refine w_iload_n (pc' := 23) (i := 1) (by rfl) (by rfl) dX11_owns_22 rfl ?_
      refine w_iload_n (pc' := 24) (i := 2) (by rfl) (by rfl) dX11_owns_23 rfl ?_
      refine w_icmp_eq (pc' := 27) (t := 39) dX11_owns_24 rfl rfl (fun c_24 => ?_) (fun c_24 => ?_)
      · skip
        refine w_bipush (pc' := 41) (by decide) (by decide) dX11_owns_39 rfl ?_
        refine v_ireturn rfl dX11_owns_41 ?_
        first
          | (exfalso; omega)
          | exact .inl ⟨by omega, rfl, O, q, hin, hb1, hb2, rfl⟩
          | exact .inr ⟨by omega, (by refine congrArg gI ?_; (repeat' split) <;> omega), rfl⟩
      · skip
        refine w_iload_n (pc' := 28) (i := 3) (by rfl) (by rfl) dX11_owns_27 rfl ?_
        refine w_iconst (pc' := 29) (by decide) dX11_owns_28 rfl ?_
        refine w_icmp_lt (pc' := 32) (t := 39) dX11_owns_29 rfl rfl (fun c_29 => ?_) (fun c_29 => ?_)
        · skip
          refine w_bipush (pc' := 41) (by decide) (by decide) dX11_owns_39 rfl ?_
          refine v_ireturn rfl dX11_owns_41 ?_
          first
            | (exfalso; omega)
            | exact .inl ⟨by omega, rfl, O, q, hin, hb1, hb2, rfl⟩
            | exact .inr ⟨by omega, (by refine congrArg gI ?_; (repeat' split) <;> omega), rfl⟩
        · skip
          refine w_iload_n (pc' := 33) (i := 3) (by rfl) (by rfl) dX11_owns_32 rfl ?_
          refine w_sipush (pc' := 36) (by decide) (by decide) dX11_owns_33 rfl ?_
          refine w_icmp_le (pc' := 39) (t := 42) dX11_owns_36 rfl rfl (fun c_36 => ?_) (fun c_36 => ?_)
          · skip
            refine w_iload (pc' := 44) (by rfl) dX11_owns_42 rfl ?_
            refine w_iload (pc' := 46) (by rfl) dX11_owns_44 rfl ?_
            refine w_iconst (pc' := 47) (by decide) dX11_owns_46 rfl ?_
            refine v_callSE (pc' := 50) (st' := [gI (gb ((0 ≤ a ∧ a ≤ 9999) ∧ (u = -1 ∨ (0 ≤ u ∧ u ≤ 9999) ∧ a + 1 ≤ u)))]) (d' := 1) (av := [gI a, gI u, gI 1]) ms_mX11_isSpan st_mX11_isSpan lk_X11_118 rfl rfl (Nat.le_of_ble_eq_true rfl) (Nat.le_of_ble_eq_true rfl) dX11_owns_47 rfl rfl (cl_isSpan σ a u 1 (by decide)) ?_
            refine v_if_neB (pc' := 53) (t := 56) dX11_owns_50 rfl rfl (fun c_50 => ?_) (fun c_50 => ?_)
            · skip
              refine w_aload_n (pc' := 57) (i := 0) (by rfl) (by rfl) dX11_owns_56 rfl ?_
              refine w_getS (pc' := 60) (q := 14) fg_X11_28 kd_0 sf_X11_6 gr_0_6 dX11_owns_57 rfl ?_
              refine w_iload_n (pc' := 61) (i := 2) (by rfl) (by rfl) dX11_owns_60 rfl ?_
              refine w_iload_n (pc' := 62) (i := 3) (by rfl) (by rfl) dX11_owns_61 rfl ?_
              refine w_iload (pc' := 64) (by rfl) dX11_owns_62 rfl ?_
              refine w_iload (pc' := 66) (by rfl) dX11_owns_64 rfl ?_
              refine v_callVE (pc' := 69) (st' := [gI (XC σ f p a u)]) (d' := 2) (av := [gI f, gI p, gI a, gI u]) mi_mX7_exceedsWhole lk_X11_122 rfl ci_X7 kd_14 rfl (Nat.le_of_ble_eq_true rfl) (Nat.le_of_ble_eq_true rfl) dX11_owns_66 rfl rfl (k_exceeds hI f p a u (by omega)) ?_
              refine w_if_eq (pc' := 72) (t := 75) dX11_owns_69 rfl rfl (fun c_69 => ?_) (fun c_69 => ?_)
              · skip
                refine w_aload_n (pc' := 76) (i := 0) (by rfl) (by rfl) dX11_owns_75 rfl ?_
                refine w_getS (pc' := 79) (q := 14) fg_X11_28 kd_0 sf_X11_6 gr_0_6 dX11_owns_76 rfl ?_
                refine w_iload_n (pc' := 80) (i := 1) (by rfl) (by rfl) dX11_owns_79 rfl ?_
                refine w_iload_n (pc' := 81) (i := 2) (by rfl) (by rfl) dX11_owns_80 rfl ?_
                refine w_iload_n (pc' := 82) (i := 3) (by rfl) (by rfl) dX11_owns_81 rfl ?_
                refine w_iload (pc' := 84) (by rfl) dX11_owns_82 rfl ?_
                refine w_iload (pc' := 86) (by rfl) dX11_owns_84 rfl ?_
                refine w_aload_n (pc' := 87) (i := 0) (by rfl) (by rfl) dX11_owns_86 rfl ?_
                refine v_getI (pc' := 90) (ji := 4) rfl fg_X11_96 kd_0 dX11_owns_87 rfl ?_
                by_cases c_90 : σ 15 6 < 200
                · skip
                  refine w_callV (pc' := 93) (d' := 2) (av := [gI x, gI f, gI p, gI a, gI u, gI (σ 0 4)]) mi_mX7_add lk_X11_126 rfl ci_X7 kd_14 rfl (Nat.le_of_ble_eq_true rfl) (Nat.le_of_ble_eq_true rfl) dX11_owns_90 rfl (k_ownAdd hI x f p a u (σ 0 4) c_90) (fun v_90 σ_90 q_90 => ?_)
                  obtain ⟨rfl, O, q, hin, hb1, hb2, rfl⟩ := q_90
                  show Wp _ _ _ _ _ _ [gI (σ 15 6)]
                  show Wp _ _ _ (gUr (gUp (gUp (gUp (gUp (gUp (gUp (gUp σ 16 (σ 15 6) x) 17 (σ 15 6) f) 18 (σ 15 6) p) 19 (σ 15 6) a) 20 (σ 15 6) u) 21 (σ 15 6) (σ 0 4)) 15 6 (σ 15 6 + 1)) 22 O) _ _ [gI (σ 15 6)]
                  refine v_ireturn rfl dX11_owns_93 ?_
                  first
                    | (exfalso; omega)
                    | exact .inl ⟨by omega, rfl, O, q, hin, hb1, hb2, rfl⟩
                    | exact .inr ⟨by omega, (by refine congrArg gI ?_; (repeat' split) <;> omega), rfl⟩
                · skip
                  refine v_callVE (pc' := 93) (st' := [gI (-5)]) (d' := 2) (av := [gI x, gI f, gI p, gI a, gI u, gI (σ 0 4)]) mi_mX7_add lk_X11_126 rfl ci_X7 kd_14 rfl (Nat.le_of_ble_eq_true rfl) (Nat.le_of_ble_eq_true rfl) dX11_owns_90 rfl rfl (k_ownFull hI x f p a u (σ 0 4) c_90) ?_
                  show Wp _ _ _ σ _ _ [gI (-5)]
                  refine v_ireturn rfl dX11_owns_93 ?_
                  first
                    | (exfalso; omega)
                    | exact .inl ⟨by omega, rfl, O, q, hin, hb1, hb2, rfl⟩
                    | exact .inr ⟨by omega, (by refine congrArg gI ?_; (repeat' split) <;> omega), rfl⟩
              · skip
                refine w_bipush (pc' := 74) (by decide) (by decide) dX11_owns_72 rfl ?_
                refine v_ireturn rfl dX11_owns_74 ?_
                first
                  | (exfalso; omega)
                  | exact .inl ⟨by omega, rfl, O, q, hin, hb1, hb2, rfl⟩
                  | exact .inr ⟨by omega, (by refine congrArg gI ?_; (repeat' split) <;> omega), rfl⟩
            · skip
              refine w_bipush (pc' := 55) (by decide) (by decide) dX11_owns_53 rfl ?_
              refine v_ireturn rfl dX11_owns_55 ?_
              first
                | (exfalso; omega)
                | exact .inl ⟨by omega, rfl, O, q, hin, hb1, hb2, rfl⟩
                | exact .inr ⟨by omega, (by refine congrArg gI ?_; (repeat' split) <;> omega), rfl⟩
          · skip
            refine w_bipush (pc' := 41) (by decide) (by decide) dX11_owns_39 rfl ?_
            refine v_ireturn rfl dX11_owns_41 ?_
            first
              | (exfalso; omega)
              | exact .inl ⟨by omega, rfl, O, q, hin, hb1, hb2, rfl⟩
              | exact .inr ⟨by omega, (by refine congrArg gI ?_; (repeat' split) <;> omega), rfl⟩
set_option maxHeartbeats 4000000 in
theorem m_ownsT {σ : gH} (hI : Inv σ) (x f p a u : Int) (O : Int → Int) (hP : ((0 ≤ x ∧ x < σ 3 2) ∧ ((0 ≤ f ∧ f < σ 3 2) ∧ σ 4 f ≠ 0) ∧ x ≠ f ∧ 1 ≤ p ∧ p ≤ 10000) ∧ ((0 ≤ a ∧ a ≤ 9999) ∧ (u = -1 ∨ (0 ≤ u ∧ u ≤ 9999) ∧ a + 1 ≤ u)) ∧ XC σ f p a u = 0 ∧ σ 15 6 < 200) : Mt mX12_owns 30 [gR 133, gI x, gI f, gI p, gI a, gI u] (gUr (gUp (gUp (gUp (gUp (gUp (gUp (gUp σ 16 (σ 15 6) x) 17 (σ 15 6) f) 18 (σ 15 6) p) 19 (σ 15 6) a) 20 (σ 15 6) u) 21 (σ 15 6) (σ 0 4)) 15 6 (σ 15 6 + 1)) 22 O) (rE (gI (σ 15 6)) (gUp (gUp (gUp (gUp (gUp (gUp (gUp (gUp (gUp (gUr (gUp (gUp (gUp (gUp (gUp (gUp (gUp σ 16 (σ 15 6) x) 17 (σ 15 6) f) 18 (σ 15 6) p) 19 (σ 15 6) a) 20 (σ 15 6) u) 21 (σ 15 6) (σ 0 4)) 15 6 (σ 15 6 + 1)) 22 O) 133 0 0) 137 (σ 15 6) x) 138 (σ 15 6) f) 139 (σ 15 6) p) 140 (σ 15 6) a) 141 (σ 15 6) (ev u)) 142 (σ 15 6) (σ 0 4)) 133 14 ((σ 15 6) + 1)) 133 7 ((σ 133 7) + 1))) := by
  refine Mt.walk (ls := [gR 133, gI x, gI f, gI p, gI a, gI u, gX 1, gX 1, gX 1, gX 1]) pn_X12 rfl (fun _ _ h => by cases h.1) (Nat.le_of_ble_eq_true rfl) rfl ?_
  have hday := hI.f.day
  unfold S_day at hday
  have hp := hI.f.hp
  have hp0 := hI.f.party.2.1
  have hT := hI.f.tape.2.1
  have hT2 := hI.f.tape.2.2.1
  have halla := ALL_in hI f a
  have hx01 := XC_01 σ f p a u
  have hn0 := hI.f.own.2.1
  have hn2 := hI.f.own.2.2.1
  have f6 := hI.f6
  have s135 : 0 ≤ f → f < σ 3 2 → 0 ≤ σ 4 f := fun h0 h1 => (hI.f.party.2.2.2 f h0 h1).2.1
  have e135 : 0 ≤ f → f < σ 3 2 → σ 135 f = σ 4 f := fun h0 h1 => hI.e135 h0 h1
  have hst := hI.mod.1
  have f14 := hI.f14
  refine w_aload_n (pc' := 1) (i := 0) (by rfl) (by rfl) dX12_owns_0 rfl ?_
  refine w_iconst (pc' := 2) (by decide) dX12_owns_1 rfl ?_
  refine v_putI (pc' := 5) (ji := 0) rfl fp_X12_244 kd_133 sf_X12_0 dX12_owns_2 rfl ?_
  refine w_aload_n (pc' := 6) (i := 0) (by rfl) (by rfl) dX12_owns_5 rfl ?_
  refine w_iload_n (pc' := 7) (i := 1) (by rfl) (by rfl) dX12_owns_6 rfl ?_
  refine v_callVE (pc' := 10) (st' := [gI (gb (0 ≤ x ∧ x < (σ 133 6)))]) (d' := 0) (av := [gI x]) mi_mX12_isParty lk_X12_276 rfl ci_X12 kd_133 rfl (Nat.le_of_ble_eq_true rfl) (Nat.le_of_ble_eq_true rfl) dX12_owns_7 rfl rfl (mo_isParty (gUp (gUr (gUp (gUp (gUp (gUp (gUp (gUp (gUp σ 16 (σ 15 6) x) 17 (σ 15 6) f) 18 (σ 15 6) p) 19 (σ 15 6) a) 20 (σ 15 6) u) 21 (σ 15 6) (σ 0 4)) 15 6 (σ 15 6 + 1)) 22 O) 133 0 0)  x) ?_
  refine v_if_eqB (pc' := 13) (t := 37) dX12_owns_10 rfl rfl (fun c_10 => ?_) (fun c_10 => ?_)
  · skip
    refine w_bipush (pc' := 39) (by decide) (by decide) dX12_owns_37 rfl ?_
    refine v_ireturn rfl dX12_owns_39 ?_
    first
      | (exfalso; omega)
      | exact ⟨(by first | rfl | exact congrArg gI (by omega) | exact congrArg gI (gb_t (by omega)) | exact congrArg gI (gb_f (by omega)) | (refine congrArg gI ?_; (repeat' split) <;> omega)), rfl⟩
  · skip
    refine w_aload_n (pc' := 14) (i := 0) (by rfl) (by rfl) dX12_owns_13 rfl ?_
    refine w_iload_n (pc' := 15) (i := 2) (by rfl) (by rfl) dX12_owns_14 rfl ?_
    refine v_callVE (pc' := 18) (st' := [gI (gb ((0 ≤ f ∧ f < (σ 133 6)) ∧ 0 < (σ 135 f)))]) (d' := 1) (av := [gI f]) mi_mX12_isHouse lk_X12_289 rfl ci_X12 kd_133 rfl (Nat.le_of_ble_eq_true rfl) (Nat.le_of_ble_eq_true rfl) dX12_owns_15 rfl rfl (mo_isHouse (gUp (gUr (gUp (gUp (gUp (gUp (gUp (gUp (gUp σ 16 (σ 15 6) x) 17 (σ 15 6) f) 18 (σ 15 6) p) 19 (σ 15 6) a) 20 (σ 15 6) u) 21 (σ 15 6) (σ 0 4)) 15 6 (σ 15 6 + 1)) 22 O) 133 0 0) (show σ 133 6 ≤ 60 by omega) f) ?_
    refine v_if_eqB (pc' := 21) (t := 37) dX12_owns_18 rfl rfl (fun c_18 => ?_) (fun c_18 => ?_)
    · skip
      refine w_bipush (pc' := 39) (by decide) (by decide) dX12_owns_37 rfl ?_
      refine v_ireturn rfl dX12_owns_39 ?_
      first
        | (exfalso; omega)
        | exact ⟨(by first | rfl | exact congrArg gI (by omega) | exact congrArg gI (gb_t (by omega)) | exact congrArg gI (gb_f (by omega)) | (refine congrArg gI ?_; (repeat' split) <;> omega)), rfl⟩
    · skip
      refine w_iload_n (pc' := 22) (i := 1) (by rfl) (by rfl) dX12_owns_21 rfl ?_
      refine w_iload_n (pc' := 23) (i := 2) (by rfl) (by rfl) dX12_owns_22 rfl ?_
      refine w_icmp_eq (pc' := 26) (t := 37) dX12_owns_23 rfl rfl (fun c_23 => ?_) (fun c_23 => ?_)
      · skip
        refine w_bipush (pc' := 39) (by decide) (by decide) dX12_owns_37 rfl ?_
        refine v_ireturn rfl dX12_owns_39 ?_
        first
          | (exfalso; omega)
          | exact ⟨(by first | rfl | exact congrArg gI (by omega) | exact congrArg gI (gb_t (by omega)) | exact congrArg gI (gb_f (by omega)) | (refine congrArg gI ?_; (repeat' split) <;> omega)), rfl⟩
      · skip
        refine w_iload_n (pc' := 27) (i := 3) (by rfl) (by rfl) dX12_owns_26 rfl ?_
        refine w_iconst (pc' := 28) (by decide) dX12_owns_27 rfl ?_
        refine w_sipush (pc' := 31) (by decide) (by decide) dX12_owns_28 rfl ?_
        refine v_callSE (pc' := 34) (st' := [gI (gb (1 ≤ p ∧ p ≤ 10000))]) (d' := 0) (av := [gI p, gI 1, gI 10000]) ms_mX12_isIn st_mX12_isIn lk_X12_254 rfl rfl (Nat.le_of_ble_eq_true rfl) (Nat.le_of_ble_eq_true rfl) dX12_owns_31 rfl rfl (mo_isIn (gUp (gUr (gUp (gUp (gUp (gUp (gUp (gUp (gUp σ 16 (σ 15 6) x) 17 (σ 15 6) f) 18 (σ 15 6) p) 19 (σ 15 6) a) 20 (σ 15 6) u) 21 (σ 15 6) (σ 0 4)) 15 6 (σ 15 6 + 1)) 22 O) 133 0 0) p 1 10000) ?_
        refine v_if_neB (pc' := 37) (t := 40) dX12_owns_34 rfl rfl (fun c_34 => ?_) (fun c_34 => ?_)
        · skip
          refine w_iload (pc' := 42) (by rfl) dX12_owns_40 rfl ?_
          refine w_iload (pc' := 44) (by rfl) dX12_owns_42 rfl ?_
          refine w_iconst (pc' := 45) (by decide) dX12_owns_44 rfl ?_
          refine v_callSE (pc' := 48) (st' := [gI (gb ((0 ≤ a ∧ a ≤ 9999) ∧ (u = -1 ∨ (0 ≤ u ∧ u ≤ 9999) ∧ a + 1 ≤ u)))]) (d' := 1) (av := [gI a, gI u, gI 1]) ms_mX12_areDays st_mX12_areDays lk_X12_292 rfl rfl (Nat.le_of_ble_eq_true rfl) (Nat.le_of_ble_eq_true rfl) dX12_owns_45 rfl rfl (mo_areDays (gUp (gUr (gUp (gUp (gUp (gUp (gUp (gUp (gUp σ 16 (σ 15 6) x) 17 (σ 15 6) f) 18 (σ 15 6) p) 19 (σ 15 6) a) 20 (σ 15 6) u) 21 (σ 15 6) (σ 0 4)) 15 6 (σ 15 6 + 1)) 22 O) 133 0 0) a u 1 (by decide)) ?_
          refine v_if_neB (pc' := 51) (t := 54) dX12_owns_48 rfl rfl (fun c_48 => ?_) (fun c_48 => ?_)
          · skip
            have hj_68 : Wp mX12_owns 30 (rE (gI (σ 15 6)) (gUp (gUp (gUp (gUp (gUp (gUp (gUp (gUp (gUp (gUr (gUp (gUp (gUp (gUp (gUp (gUp (gUp σ 16 (σ 15 6) x) 17 (σ 15 6) f) 18 (σ 15 6) p) 19 (σ 15 6) a) 20 (σ 15 6) u) 21 (σ 15 6) (σ 0 4)) 15 6 (σ 15 6 + 1)) 22 O) 133 0 0) 137 (σ 15 6) x) 138 (σ 15 6) f) 139 (σ 15 6) p) 140 (σ 15 6) a) 141 (σ 15 6) (ev u)) 142 (σ 15 6) (σ 0 4)) 133 14 ((σ 15 6) + 1)) 133 7 ((σ 133 7) + 1))) (gUp (gUr (gUp (gUp (gUp (gUp (gUp (gUp (gUp σ 16 (σ 15 6) x) 17 (σ 15 6) f) 18 (σ 15 6) p) 19 (σ 15 6) a) 20 (σ 15 6) u) 21 (σ 15 6) (σ 0 4)) 15 6 (σ 15 6 + 1)) 22 O) 133 0 0) 68 [gR 133, gI x, gI f, gI p, gI a, gI u, gX 1, gX 1, gX 1, gX 1] [gI (ev u)] := by
              refine w_istore (pc' := 70) (ls' := [gR 133, gI x, gI f, gI p, gI a, gI u, gI (ev u), gX 1, gX 1, gX 1]) (by decide) (by rfl) dX12_owns_68 rfl ?_
              refine w_aload_n (pc' := 71) (i := 0) (by rfl) (by rfl) dX12_owns_70 rfl ?_
              refine w_iload_n (pc' := 72) (i := 2) (by rfl) (by rfl) dX12_owns_71 rfl ?_
              refine w_iload (pc' := 74) (by rfl) dX12_owns_72 rfl ?_
              refine v_callVE (pc' := 77) (st' := [gI (ALL σ f a)]) (d' := 1) (av := [gI f, gI a]) mi_mX12_allOn lk_X12_295 rfl ci_X12 kd_133 rfl (Nat.le_of_ble_eq_true rfl) (Nat.le_of_ble_eq_true rfl) dX12_owns_74 rfl rfl (q_allOn hI (gUp (gUr (gUp (gUp (gUp (gUp (gUp (gUp (gUp σ 16 (σ 15 6) x) 17 (σ 15 6) f) 18 (σ 15 6) p) 19 (σ 15 6) a) 20 (σ 15 6) u) 21 (σ 15 6) (σ 0 4)) 15 6 (σ 15 6 + 1)) 22 O) 133 0 0) rfl rfl rfl rfl rfl f a) ?_
              refine w_istore (pc' := 79) (ls' := [gR 133, gI x, gI f, gI p, gI a, gI u, gI (ev u), gI (ALL σ f a), gX 1, gX 1]) (by decide) (by rfl) dX12_owns_77 rfl ?_
              refine w_iconst (pc' := 80) (by decide) dX12_owns_79 rfl ?_
              refine w_istore (pc' := 82) (ls' := [gR 133, gI x, gI f, gI p, gI a, gI u, gI (ev u), gI (ALL σ f a), gI 0, gX 1]) (by decide) (by rfl) dX12_owns_80 rfl ?_
              have hl_82 : ∀ (mm : Nat) (k m : Int), (σ 15 6 - k).toNat = mm → (0 ≤ k) → (k ≤ σ 15 6) → (ALL σ f a ≤ m ∧ m ≤ 10000) → (∀ j, 0 ≤ j → j < k → σ 17 j = f → a < σ 19 j → (u = -1 ∨ σ 19 j < u) → ALL σ f (σ 19 j) ≤ m) → (∀ _ : Unit, (m = ALL σ f a ∨ ∃ j, 0 ≤ j ∧ j < σ 15 6 ∧ (σ 17 j = f ∧ a < σ 19 j ∧ (u = -1 ∨ σ 19 j < u)) ∧ m = ALL σ f (σ 19 j))) → Wp mX12_owns 30 (rE (gI (σ 15 6)) (gUp (gUp (gUp (gUp (gUp (gUp (gUp (gUp (gUp (gUr (gUp (gUp (gUp (gUp (gUp (gUp (gUp σ 16 (σ 15 6) x) 17 (σ 15 6) f) 18 (σ 15 6) p) 19 (σ 15 6) a) 20 (σ 15 6) u) 21 (σ 15 6) (σ 0 4)) 15 6 (σ 15 6 + 1)) 22 O) 133 0 0) 137 (σ 15 6) x) 138 (σ 15 6) f) 139 (σ 15 6) p) 140 (σ 15 6) a) 141 (σ 15 6) (ev u)) 142 (σ 15 6) (σ 0 4)) 133 14 ((σ 15 6) + 1)) 133 7 ((σ 133 7) + 1))) (gUp (gUr (gUp (gUp (gUp (gUp (gUp (gUp (gUp σ 16 (σ 15 6) x) 17 (σ 15 6) f) 18 (σ 15 6) p) 19 (σ 15 6) a) 20 (σ 15 6) u) 21 (σ 15 6) (σ 0 4)) 15 6 (σ 15 6 + 1)) 22 O) 133 0 0) 82 [gR 133, gI x, gI f, gI p, gI a, gI u, gI (ev u), gI m, gI k, gX 1] [] := by
                intro m_82
                induction m_82 using Nat.strongRecOn with
                | _ m_82 ih_82 =>
                  intro k m hmeas_82 h0 h1 hm hle hex
                  have hday := fun h : k < σ 15 6 => own_day hI h0 h
                  have hall := ALL_in hI f (σ 19 k)
                  have hev : (u = -1 ∧ ev u = 2147483647) ∨ (u ≠ -1 ∧ ev u = u) := by
                    unfold ev
                    by_cases c : u = -1
                    · exact Or.inl ⟨c, if_pos c⟩
                    · exact Or.inr ⟨c, if_neg c⟩
                  have hxe : σ 15 6 ≤ k → (XC σ f p a u = 0 ↔ m + p ≤ 10000) := fun h => by
                    constructor
                    · intro z
                      rcases hex () with e | ⟨j, j0, j1, j2, j3⟩
                      · by_cases c : 10000 < p + ALL σ f a
                        · have := XC_1 (σ := σ) (u := u) c; omega
                        · omega
                      · by_cases c : 10000 < p + ALL σ f (σ 19 j)
                        · have := XC_2 (p := p) j0 j1 ⟨j2.1, j2.2.1, j2.2.2, c⟩; omega
                        · omega
                    · intro z
                      refine XC_0 (by omega) fun i a1 a2 a3 => ?_
                      have := hle i a1 (by omega) a3.1 a3.2.1 a3.2.2.1
                      omega
                  refine w_iload (pc' := 84) (by rfl) dX12_owns_82 rfl ?_
                  refine w_aload_n (pc' := 85) (i := 0) (by rfl) (by rfl) dX12_owns_84 rfl ?_
                  refine v_getI (pc' := 88) (ji := 14) rfl fg_X12_283 kd_133 dX12_owns_85 rfl ?_
                  show Wp _ _ _ _ _ _ [gI (σ 133 14), gI k]
                  rw [hI.f14]
                  refine w_icmp_ge (pc' := 91) (t := 160) dX12_owns_88 rfl rfl (fun c_88 => ?_) (fun c_88 => ?_)
                  · skip
                    refine w_iload (pc' := 162) (by rfl) dX12_owns_160 rfl ?_
                    refine w_iload_n (pc' := 163) (i := 3) (by rfl) (by rfl) dX12_owns_162 rfl ?_
                    refine v_iadd (pc' := 164) (by omega) dX12_owns_163 rfl ?_
                    refine w_sipush (pc' := 167) (by decide) (by decide) dX12_owns_164 rfl ?_
                    refine w_icmp_le (pc' := 170) (t := 173) dX12_owns_167 rfl rfl (fun c_167 => ?_) (fun c_167 => ?_)
                    · skip
                      refine w_aload_n (pc' := 174) (i := 0) (by rfl) (by rfl) dX12_owns_173 rfl ?_
                      refine v_getI (pc' := 177) (ji := 14) rfl fg_X12_283 kd_133 dX12_owns_174 rfl ?_
                      show Wp _ _ _ _ _ _ [gI (σ 133 14)]
                      rw [hI.f14]
                      refine w_sipush (pc' := 180) (by decide) (by decide) dX12_owns_177 rfl ?_
                      refine w_icmp_ne (pc' := 183) (t := 186) dX12_owns_180 rfl rfl (fun c_180 => ?_) (fun c_180 => ?_)
                      · skip
                        refine w_aload_n (pc' := 187) (i := 0) (by rfl) (by rfl) dX12_owns_186 rfl ?_
                        refine w_getS (pc' := 190) (q := 137) fg_X12_24 kd_133 sf_X12_8 gr_133_8 dX12_owns_187 rfl ?_
                        refine w_aload_n (pc' := 191) (i := 0) (by rfl) (by rfl) dX12_owns_190 rfl ?_
                        refine v_getI (pc' := 194) (ji := 14) rfl fg_X12_283 kd_133 dX12_owns_191 rfl ?_
                        show Wp _ _ _ _ _ _ [gI (σ 133 14), gR 137]
                        rw [hI.f14]
                        refine w_iload_n (pc' := 195) (i := 1) (by rfl) (by rfl) dX12_owns_194 rfl ?_
                        refine w_iast (pc' := 196) kd_137 (by omega) (by omega) dX12_owns_195 rfl ?_
                        refine w_aload_n (pc' := 197) (i := 0) (by rfl) (by rfl) dX12_owns_196 rfl ?_
                        refine w_getS (pc' := 200) (q := 138) fg_X12_27 kd_133 sf_X12_9 gr_133_9 dX12_owns_197 rfl ?_
                        refine w_aload_n (pc' := 201) (i := 0) (by rfl) (by rfl) dX12_owns_200 rfl ?_
                        refine v_getI (pc' := 204) (ji := 14) rfl fg_X12_283 kd_133 dX12_owns_201 rfl ?_
                        show Wp _ _ _ _ _ _ [gI (σ 133 14), gR 138]
                        rw [hI.f14]
                        refine w_iload_n (pc' := 205) (i := 2) (by rfl) (by rfl) dX12_owns_204 rfl ?_
                        refine w_iast (pc' := 206) kd_138 (by omega) (by omega) dX12_owns_205 rfl ?_
                        refine w_aload_n (pc' := 207) (i := 0) (by rfl) (by rfl) dX12_owns_206 rfl ?_
                        refine w_getS (pc' := 210) (q := 139) fg_X12_30 kd_133 sf_X12_10 gr_133_10 dX12_owns_207 rfl ?_
                        refine w_aload_n (pc' := 211) (i := 0) (by rfl) (by rfl) dX12_owns_210 rfl ?_
                        refine v_getI (pc' := 214) (ji := 14) rfl fg_X12_283 kd_133 dX12_owns_211 rfl ?_
                        show Wp _ _ _ _ _ _ [gI (σ 133 14), gR 139]
                        rw [hI.f14]
                        refine w_iload_n (pc' := 215) (i := 3) (by rfl) (by rfl) dX12_owns_214 rfl ?_
                        refine w_iast (pc' := 216) kd_139 (by omega) (by omega) dX12_owns_215 rfl ?_
                        refine w_aload_n (pc' := 217) (i := 0) (by rfl) (by rfl) dX12_owns_216 rfl ?_
                        refine w_getS (pc' := 220) (q := 140) fg_X12_33 kd_133 sf_X12_11 gr_133_11 dX12_owns_217 rfl ?_
                        refine w_aload_n (pc' := 221) (i := 0) (by rfl) (by rfl) dX12_owns_220 rfl ?_
                        refine v_getI (pc' := 224) (ji := 14) rfl fg_X12_283 kd_133 dX12_owns_221 rfl ?_
                        show Wp _ _ _ _ _ _ [gI (σ 133 14), gR 140]
                        rw [hI.f14]
                        refine w_iload (pc' := 226) (by rfl) dX12_owns_224 rfl ?_
                        refine w_iast (pc' := 227) kd_140 (by omega) (by omega) dX12_owns_226 rfl ?_
                        refine w_aload_n (pc' := 228) (i := 0) (by rfl) (by rfl) dX12_owns_227 rfl ?_
                        refine w_getS (pc' := 231) (q := 141) fg_X12_36 kd_133 sf_X12_12 gr_133_12 dX12_owns_228 rfl ?_
                        refine w_aload_n (pc' := 232) (i := 0) (by rfl) (by rfl) dX12_owns_231 rfl ?_
                        refine v_getI (pc' := 235) (ji := 14) rfl fg_X12_283 kd_133 dX12_owns_232 rfl ?_
                        show Wp _ _ _ _ _ _ [gI (σ 133 14), gR 141]
                        rw [hI.f14]
                        refine w_iload (pc' := 237) (by rfl) dX12_owns_235 rfl ?_
                        refine w_iast (pc' := 238) kd_141 (by omega) (by omega) dX12_owns_237 rfl ?_
                        refine w_aload_n (pc' := 239) (i := 0) (by rfl) (by rfl) dX12_owns_238 rfl ?_
                        refine w_getS (pc' := 242) (q := 142) fg_X12_39 kd_133 sf_X12_13 gr_133_13 dX12_owns_239 rfl ?_
                        refine w_aload_n (pc' := 243) (i := 0) (by rfl) (by rfl) dX12_owns_242 rfl ?_
                        refine v_getI (pc' := 246) (ji := 14) rfl fg_X12_283 kd_133 dX12_owns_243 rfl ?_
                        show Wp _ _ _ _ _ _ [gI (σ 133 14), gR 142]
                        rw [hI.f14]
                        refine w_aload_n (pc' := 247) (i := 0) (by rfl) (by rfl) dX12_owns_246 rfl ?_
                        refine v_getI (pc' := 250) (ji := 3) rfl fg_X12_258 kd_133 dX12_owns_247 rfl ?_
                        show Wp _ _ _ _ _ _ [gI (σ 133 3), gI (σ 15 6), gR 142]
                        rw [hI.f3]
                        refine w_iast (pc' := 251) kd_142 (by omega) (by omega) dX12_owns_250 rfl ?_
                        refine w_aload_n (pc' := 252) (i := 0) (by rfl) (by rfl) dX12_owns_251 rfl ?_
                        refine w_dup (pc' := 253) dX12_owns_252 rfl ?_
                        refine v_getI (pc' := 256) (ji := 14) rfl fg_X12_283 kd_133 dX12_owns_253 rfl ?_
                        show Wp _ _ _ _ _ _ [gI (σ 133 14), gR 133]
                        rw [hI.f14]
                        refine w_iconst (pc' := 257) (by decide) dX12_owns_256 rfl ?_
                        refine v_iadd (pc' := 258) (by omega) dX12_owns_257 rfl ?_
                        refine v_putI (pc' := 261) (ji := 14) rfl fp_X12_283 kd_133 sf_X12_14 dX12_owns_258 rfl ?_
                        refine w_aload_n (pc' := 262) (i := 0) (by rfl) (by rfl) dX12_owns_261 rfl ?_
                        refine w_dup (pc' := 263) dX12_owns_262 rfl ?_
                        refine v_getI (pc' := 266) (ji := 7) rfl fg_X12_20 kd_133 dX12_owns_263 rfl ?_
                        show Wp _ _ _ _ _ _ [gI (σ 133 7), gR 133]
                        refine w_iconst (pc' := 267) (by decide) dX12_owns_266 rfl ?_
                        refine v_iadd (pc' := 268) (by omega) dX12_owns_267 rfl ?_
                        refine v_putI (pc' := 271) (ji := 7) rfl fp_X12_20 kd_133 sf_X12_7 dX12_owns_268 rfl ?_
                        refine w_aload_n (pc' := 272) (i := 0) (by rfl) (by rfl) dX12_owns_271 rfl ?_
                        refine v_getI (pc' := 275) (ji := 14) rfl fg_X12_283 kd_133 dX12_owns_272 rfl ?_
                        show Wp _ _ _ _ _ _ [gI ((σ 15 6) + 1)]
                        refine w_iconst (pc' := 276) (by decide) dX12_owns_275 rfl ?_
                        refine v_isub (pc' := 277) (by omega) dX12_owns_276 rfl ?_
                        refine v_ireturn rfl dX12_owns_277 ?_
                        first
                          | (exfalso; omega)
                          | exact ⟨(by first | rfl | exact congrArg gI (by omega) | exact congrArg gI (gb_t (by omega)) | exact congrArg gI (gb_f (by omega)) | (refine congrArg gI ?_; (repeat' split) <;> omega)), rfl⟩
                      · skip
                        refine w_bipush (pc' := 185) (by decide) (by decide) dX12_owns_183 rfl ?_
                        refine v_ireturn rfl dX12_owns_185 ?_
                        first
                          | (exfalso; omega)
                          | exact ⟨(by first | rfl | exact congrArg gI (by omega) | exact congrArg gI (gb_t (by omega)) | exact congrArg gI (gb_f (by omega)) | (refine congrArg gI ?_; (repeat' split) <;> omega)), rfl⟩
                    · skip
                      refine w_bipush (pc' := 172) (by decide) (by decide) dX12_owns_170 rfl ?_
                      refine v_ireturn rfl dX12_owns_172 ?_
                      first
                        | (exfalso; omega)
                        | exact ⟨(by first | rfl | exact congrArg gI (by omega) | exact congrArg gI (gb_t (by omega)) | exact congrArg gI (gb_f (by omega)) | (refine congrArg gI ?_; (repeat' split) <;> omega)), rfl⟩
                  · skip
                    refine w_aload_n (pc' := 92) (i := 0) (by rfl) (by rfl) dX12_owns_91 rfl ?_
                    refine w_getS (pc' := 95) (q := 138) fg_X12_27 kd_133 sf_X12_9 gr_133_9 dX12_owns_92 rfl ?_
                    refine w_iload (pc' := 97) (by rfl) dX12_owns_95 rfl ?_
                    refine w_iald (pc' := 98) kd_138 (by omega) (by omega) dX12_owns_97 rfl ?_
                    show Wp _ _ _ _ _ _ [gI (σ 138 k)]
                    rw [hI.e138 (i := k) (by omega) (by omega)]
                    refine w_iload_n (pc' := 99) (i := 2) (by rfl) (by rfl) dX12_owns_98 rfl ?_
                    refine w_icmp_ne (pc' := 102) (t := 154) dX12_owns_99 rfl rfl (fun c_99 => ?_) (fun c_99 => ?_)
                    · skip
                      refine v_iinc (pc' := 157) (x := k) (ls' := [gR 133, gI x, gI f, gI p, gI a, gI u, gI (ev u), gI m, gI (k + 1), gX 1]) (by omega) (by decide) (by rfl) (by rfl) dX12_owns_154 rfl ?_
                      refine w_goto (pc' := 82) dX12_owns_157 rfl ?_
                      exact ih_82 _ (by omega) (k + 1) m rfl (by omega) (by omega) (by first | exact hm | omega) (by intro j j0 j1 d1 d2 d3; by_cases e : j = k; (rw [e] at d1 d2 d3 ⊢; first | (exfalso; omega) | omega); (have := hle j j0 (by omega) d1 d2 d3; omega)) (by first | exact hex | exact fun _ => .inr ⟨k, h0, by omega, ⟨by omega, by omega, by omega⟩, rfl⟩)
                    · skip
                      refine w_aload_n (pc' := 103) (i := 0) (by rfl) (by rfl) dX12_owns_102 rfl ?_
                      refine w_getS (pc' := 106) (q := 140) fg_X12_33 kd_133 sf_X12_11 gr_133_11 dX12_owns_103 rfl ?_
                      refine w_iload (pc' := 108) (by rfl) dX12_owns_106 rfl ?_
                      refine w_iald (pc' := 109) kd_140 (by omega) (by omega) dX12_owns_108 rfl ?_
                      show Wp _ _ _ _ _ _ [gI (σ 140 k)]
                      rw [hI.e140 (i := k) (by omega) (by omega)]
                      refine w_iload (pc' := 111) (by rfl) dX12_owns_109 rfl ?_
                      refine w_icmp_le (pc' := 114) (t := 154) dX12_owns_111 rfl rfl (fun c_111 => ?_) (fun c_111 => ?_)
                      · skip
                        refine v_iinc (pc' := 157) (x := k) (ls' := [gR 133, gI x, gI f, gI p, gI a, gI u, gI (ev u), gI m, gI (k + 1), gX 1]) (by omega) (by decide) (by rfl) (by rfl) dX12_owns_154 rfl ?_
                        refine w_goto (pc' := 82) dX12_owns_157 rfl ?_
                        exact ih_82 _ (by omega) (k + 1) m rfl (by omega) (by omega) (by first | exact hm | omega) (by intro j j0 j1 d1 d2 d3; by_cases e : j = k; (rw [e] at d1 d2 d3 ⊢; first | (exfalso; omega) | omega); (have := hle j j0 (by omega) d1 d2 d3; omega)) (by first | exact hex | exact fun _ => .inr ⟨k, h0, by omega, ⟨by omega, by omega, by omega⟩, rfl⟩)
                      · skip
                        refine w_aload_n (pc' := 115) (i := 0) (by rfl) (by rfl) dX12_owns_114 rfl ?_
                        refine w_getS (pc' := 118) (q := 140) fg_X12_33 kd_133 sf_X12_11 gr_133_11 dX12_owns_115 rfl ?_
                        refine w_iload (pc' := 120) (by rfl) dX12_owns_118 rfl ?_
                        refine w_iald (pc' := 121) kd_140 (by omega) (by omega) dX12_owns_120 rfl ?_
                        show Wp _ _ _ _ _ _ [gI (σ 140 k)]
                        rw [hI.e140 (i := k) (by omega) (by omega)]
                        refine w_iload (pc' := 123) (by rfl) dX12_owns_121 rfl ?_
                        refine w_icmp_lt (pc' := 126) (t := 129) dX12_owns_123 rfl rfl (fun c_123 => ?_) (fun c_123 => ?_)
                        · skip
                          refine w_aload_n (pc' := 130) (i := 0) (by rfl) (by rfl) dX12_owns_129 rfl ?_
                          refine w_iload_n (pc' := 131) (i := 2) (by rfl) (by rfl) dX12_owns_130 rfl ?_
                          refine w_aload_n (pc' := 132) (i := 0) (by rfl) (by rfl) dX12_owns_131 rfl ?_
                          refine w_getS (pc' := 135) (q := 140) fg_X12_33 kd_133 sf_X12_11 gr_133_11 dX12_owns_132 rfl ?_
                          refine w_iload (pc' := 137) (by rfl) dX12_owns_135 rfl ?_
                          refine w_iald (pc' := 138) kd_140 (by omega) (by omega) dX12_owns_137 rfl ?_
                          show Wp _ _ _ _ _ _ [gI (σ 140 k), gI f, gR 133]
                          rw [hI.e140 (i := k) (by omega) (by omega)]
                          refine v_callVE (pc' := 141) (st' := [gI (ALL σ f (σ 19 k))]) (d' := 1) (av := [gI f, gI (σ 19 k)]) mi_mX12_allOn lk_X12_295 rfl ci_X12 kd_133 rfl (Nat.le_of_ble_eq_true rfl) (Nat.le_of_ble_eq_true rfl) dX12_owns_138 rfl rfl (q_allOn hI (gUp (gUr (gUp (gUp (gUp (gUp (gUp (gUp (gUp σ 16 (σ 15 6) x) 17 (σ 15 6) f) 18 (σ 15 6) p) 19 (σ 15 6) a) 20 (σ 15 6) u) 21 (σ 15 6) (σ 0 4)) 15 6 (σ 15 6 + 1)) 22 O) 133 0 0) rfl rfl rfl rfl rfl f (σ 19 k)) ?_
                          refine w_istore (pc' := 143) (ls' := [gR 133, gI x, gI f, gI p, gI a, gI u, gI (ev u), gI m, gI k, gI (ALL σ f (σ 19 k))]) (by decide) (by rfl) dX12_owns_141 rfl ?_
                          refine w_iload (pc' := 145) (by rfl) dX12_owns_143 rfl ?_
                          refine w_iload (pc' := 147) (by rfl) dX12_owns_145 rfl ?_
                          refine w_icmp_le (pc' := 150) (t := 154) dX12_owns_147 rfl rfl (fun c_147 => ?_) (fun c_147 => ?_)
                          · skip
                            refine v_iinc (pc' := 157) (x := k) (ls' := [gR 133, gI x, gI f, gI p, gI a, gI u, gI (ev u), gI m, gI (k + 1), gI (ALL σ f (σ 19 k))]) (by omega) (by decide) (by rfl) (by rfl) dX12_owns_154 rfl ?_
                            refine w_goto (pc' := 82) dX12_owns_157 rfl ?_
                            refine Wp.lose (ls' := [gR 133, gI x, gI f, gI p, gI a, gI u, gI (ev u), gI m, gI (k + 1), gX 1]) ⟨.inr rfl, ⟨.inr rfl, ⟨.inr rfl, ⟨.inr rfl, ⟨.inr rfl, ⟨.inr rfl, ⟨.inr rfl, ⟨.inr rfl, ⟨.inr rfl, ⟨.inl rfl, trivial⟩⟩⟩⟩⟩⟩⟩⟩⟩⟩ ?_
                            exact ih_82 _ (by omega) (k + 1) m rfl (by omega) (by omega) (by first | exact hm | omega) (by intro j j0 j1 d1 d2 d3; by_cases e : j = k; (rw [e] at d1 d2 d3 ⊢; first | (exfalso; omega) | omega); (have := hle j j0 (by omega) d1 d2 d3; omega)) (by first | exact hex | exact fun _ => .inr ⟨k, h0, by omega, ⟨by omega, by omega, by omega⟩, rfl⟩)
                          · skip
                            refine w_iload (pc' := 152) (by rfl) dX12_owns_150 rfl ?_
                            refine w_istore (pc' := 154) (ls' := [gR 133, gI x, gI f, gI p, gI a, gI u, gI (ev u), gI (ALL σ f (σ 19 k)), gI k, gI (ALL σ f (σ 19 k))]) (by decide) (by rfl) dX12_owns_152 rfl ?_
                            refine v_iinc (pc' := 157) (x := k) (ls' := [gR 133, gI x, gI f, gI p, gI a, gI u, gI (ev u), gI (ALL σ f (σ 19 k)), gI (k + 1), gI (ALL σ f (σ 19 k))]) (by omega) (by decide) (by rfl) (by rfl) dX12_owns_154 rfl ?_
                            refine w_goto (pc' := 82) dX12_owns_157 rfl ?_
                            refine Wp.lose (ls' := [gR 133, gI x, gI f, gI p, gI a, gI u, gI (ev u), gI (ALL σ f (σ 19 k)), gI (k + 1), gX 1]) ⟨.inr rfl, ⟨.inr rfl, ⟨.inr rfl, ⟨.inr rfl, ⟨.inr rfl, ⟨.inr rfl, ⟨.inr rfl, ⟨.inr rfl, ⟨.inr rfl, ⟨.inl rfl, trivial⟩⟩⟩⟩⟩⟩⟩⟩⟩⟩ ?_
                            exact ih_82 _ (by omega) (k + 1) (ALL σ f (σ 19 k)) rfl (by omega) (by omega) (by first | exact hm | omega) (by intro j j0 j1 d1 d2 d3; by_cases e : j = k; (rw [e] at d1 d2 d3 ⊢; first | (exfalso; omega) | omega); (have := hle j j0 (by omega) d1 d2 d3; omega)) (by first | exact hex | exact fun _ => .inr ⟨k, h0, by omega, ⟨by omega, by omega, by omega⟩, rfl⟩)
                        · skip
                          refine w_goto (pc' := 154) dX12_owns_126 rfl ?_
                          refine v_iinc (pc' := 157) (x := k) (ls' := [gR 133, gI x, gI f, gI p, gI a, gI u, gI (ev u), gI m, gI (k + 1), gX 1]) (by omega) (by decide) (by rfl) (by rfl) dX12_owns_154 rfl ?_
                          refine w_goto (pc' := 82) dX12_owns_157 rfl ?_
                          exact ih_82 _ (by omega) (k + 1) m rfl (by omega) (by omega) (by first | exact hm | omega) (by intro j j0 j1 d1 d2 d3; by_cases e : j = k; (rw [e] at d1 d2 d3 ⊢; first | (exfalso; omega) | omega); (have := hle j j0 (by omega) d1 d2 d3; omega)) (by first | exact hex | exact fun _ => .inr ⟨k, h0, by omega, ⟨by omega, by omega, by omega⟩, rfl⟩)
              exact hl_82 _ 0 (ALL σ f a) rfl (by omega) (by omega) (by have := ALL_in hI f a; omega) (by intro j a b; omega) (by exact fun _ => .inl rfl)
            refine w_iload (pc' := 56) (by rfl) dX12_owns_54 rfl ?_
            refine w_iconst (pc' := 57) (by decide) dX12_owns_56 rfl ?_
            refine w_icmp_ne (pc' := 60) (t := 66) dX12_owns_57 rfl rfl (fun c_57 => ?_) (fun c_57 => ?_)
            · skip
              refine w_iload (pc' := 68) (by rfl) dX12_owns_66 rfl ?_
              exact Wp.stI (by first | (exfalso; omega) | (unfold ev; first | (rw [if_pos (by omega)]) | (rw [if_neg (by omega)]))) hj_68
            · skip
              refine w_ldc_w (pc' := 63) (by decide) ct_X12_282 dX12_owns_60 rfl ?_
              refine w_goto (pc' := 68) dX12_owns_63 rfl ?_
              exact Wp.stI (by first | (exfalso; omega) | (unfold ev; first | (rw [if_pos (by omega)]) | (rw [if_neg (by omega)]))) hj_68
          · skip
            refine w_bipush (pc' := 53) (by decide) (by decide) dX12_owns_51 rfl ?_
            refine v_ireturn rfl dX12_owns_53 ?_
            first
              | (exfalso; omega)
              | exact ⟨(by first | rfl | exact congrArg gI (by omega) | exact congrArg gI (gb_t (by omega)) | exact congrArg gI (gb_f (by omega)) | (refine congrArg gI ?_; (repeat' split) <;> omega)), rfl⟩
        · skip
          refine w_bipush (pc' := 39) (by decide) (by decide) dX12_owns_37 rfl ?_
          refine v_ireturn rfl dX12_owns_39 ?_
          first
            | (exfalso; omega)
            | exact ⟨(by first | rfl | exact congrArg gI (by omega) | exact congrArg gI (gb_t (by omega)) | exact congrArg gI (gb_f (by omega)) | (refine congrArg gI ?_; (repeat' split) <;> omega)), rfl⟩
set_option maxHeartbeats 4000000 in
theorem m_ownsF {σ : gH} (hI : Inv σ) (x f p a u : Int)  (hP : ¬ (((0 ≤ x ∧ x < σ 3 2) ∧ ((0 ≤ f ∧ f < σ 3 2) ∧ σ 4 f ≠ 0) ∧ x ≠ f ∧ 1 ≤ p ∧ p ≤ 10000) ∧ ((0 ≤ a ∧ a ≤ 9999) ∧ (u = -1 ∨ (0 ≤ u ∧ u ≤ 9999) ∧ a + 1 ≤ u)) ∧ XC σ f p a u = 0 ∧ σ 15 6 < 200)) : Mt mX12_owns 30 [gR 133, gI x, gI f, gI p, gI a, gI u] σ (rE (gI (if ((0 ≤ x ∧ x < σ 3 2) ∧ ((0 ≤ f ∧ f < σ 3 2) ∧ σ 4 f ≠ 0) ∧ x ≠ f ∧ 1 ≤ p ∧ p ≤ 10000) then if ((0 ≤ a ∧ a ≤ 9999) ∧ (u = -1 ∨ (0 ≤ u ∧ u ≤ 9999) ∧ a + 1 ≤ u)) then if XC σ f p a u = 0 then -5 else -4 else -3 else -2)) (gUp σ 133 0 0)) := by
  refine Mt.walk (ls := [gR 133, gI x, gI f, gI p, gI a, gI u, gX 1, gX 1, gX 1, gX 1]) pn_X12 rfl (fun _ _ h => by cases h.1) (Nat.le_of_ble_eq_true rfl) rfl ?_
  have hday := hI.f.day
  unfold S_day at hday
  have hp := hI.f.hp
  have hp0 := hI.f.party.2.1
  have hT := hI.f.tape.2.1
  have hT2 := hI.f.tape.2.2.1
  have halla := ALL_in hI f a
  have hx01 := XC_01 σ f p a u
  have hn0 := hI.f.own.2.1
  have hn2 := hI.f.own.2.2.1
  have f6 := hI.f6
  have s135 : 0 ≤ f → f < σ 3 2 → 0 ≤ σ 4 f := fun h0 h1 => (hI.f.party.2.2.2 f h0 h1).2.1
  have e135 : 0 ≤ f → f < σ 3 2 → σ 135 f = σ 4 f := fun h0 h1 => hI.e135 h0 h1
  have hst := hI.mod.1
  have f14 := hI.f14
  refine w_aload_n (pc' := 1) (i := 0) (by rfl) (by rfl) dX12_owns_0 rfl ?_
  refine w_iconst (pc' := 2) (by decide) dX12_owns_1 rfl ?_
  refine v_putI (pc' := 5) (ji := 0) rfl fp_X12_244 kd_133 sf_X12_0 dX12_owns_2 rfl ?_
  refine w_aload_n (pc' := 6) (i := 0) (by rfl) (by rfl) dX12_owns_5 rfl ?_
  refine w_iload_n (pc' := 7) (i := 1) (by rfl) (by rfl) dX12_owns_6 rfl ?_
  refine v_callVE (pc' := 10) (st' := [gI (gb (0 ≤ x ∧ x < (σ 133 6)))]) (d' := 0) (av := [gI x]) mi_mX12_isParty lk_X12_276 rfl ci_X12 kd_133 rfl (Nat.le_of_ble_eq_true rfl) (Nat.le_of_ble_eq_true rfl) dX12_owns_7 rfl rfl (mo_isParty (gUp σ 133 0 0)  x) ?_
  refine v_if_eqB (pc' := 13) (t := 37) dX12_owns_10 rfl rfl (fun c_10 => ?_) (fun c_10 => ?_)
  · skip
    refine w_bipush (pc' := 39) (by decide) (by decide) dX12_owns_37 rfl ?_
    refine v_ireturn rfl dX12_owns_39 ?_
    first
      | (exfalso; omega)
      | exact ⟨(by first | rfl | exact congrArg gI (by omega) | exact congrArg gI (gb_t (by omega)) | exact congrArg gI (gb_f (by omega)) | (refine congrArg gI ?_; (repeat' split) <;> omega)), rfl⟩
  · skip
    refine w_aload_n (pc' := 14) (i := 0) (by rfl) (by rfl) dX12_owns_13 rfl ?_
    refine w_iload_n (pc' := 15) (i := 2) (by rfl) (by rfl) dX12_owns_14 rfl ?_
    refine v_callVE (pc' := 18) (st' := [gI (gb ((0 ≤ f ∧ f < (σ 133 6)) ∧ 0 < (σ 135 f)))]) (d' := 1) (av := [gI f]) mi_mX12_isHouse lk_X12_289 rfl ci_X12 kd_133 rfl (Nat.le_of_ble_eq_true rfl) (Nat.le_of_ble_eq_true rfl) dX12_owns_15 rfl rfl (mo_isHouse (gUp σ 133 0 0) (show σ 133 6 ≤ 60 by omega) f) ?_
    refine v_if_eqB (pc' := 21) (t := 37) dX12_owns_18 rfl rfl (fun c_18 => ?_) (fun c_18 => ?_)
    · skip
      refine w_bipush (pc' := 39) (by decide) (by decide) dX12_owns_37 rfl ?_
      refine v_ireturn rfl dX12_owns_39 ?_
      first
        | (exfalso; omega)
        | exact ⟨(by first | rfl | exact congrArg gI (by omega) | exact congrArg gI (gb_t (by omega)) | exact congrArg gI (gb_f (by omega)) | (refine congrArg gI ?_; (repeat' split) <;> omega)), rfl⟩
    · skip
      refine w_iload_n (pc' := 22) (i := 1) (by rfl) (by rfl) dX12_owns_21 rfl ?_
      refine w_iload_n (pc' := 23) (i := 2) (by rfl) (by rfl) dX12_owns_22 rfl ?_
      refine w_icmp_eq (pc' := 26) (t := 37) dX12_owns_23 rfl rfl (fun c_23 => ?_) (fun c_23 => ?_)
      · skip
        refine w_bipush (pc' := 39) (by decide) (by decide) dX12_owns_37 rfl ?_
        refine v_ireturn rfl dX12_owns_39 ?_
        first
          | (exfalso; omega)
          | exact ⟨(by first | rfl | exact congrArg gI (by omega) | exact congrArg gI (gb_t (by omega)) | exact congrArg gI (gb_f (by omega)) | (refine congrArg gI ?_; (repeat' split) <;> omega)), rfl⟩
      · skip
        refine w_iload_n (pc' := 27) (i := 3) (by rfl) (by rfl) dX12_owns_26 rfl ?_
        refine w_iconst (pc' := 28) (by decide) dX12_owns_27 rfl ?_
        refine w_sipush (pc' := 31) (by decide) (by decide) dX12_owns_28 rfl ?_
        refine v_callSE (pc' := 34) (st' := [gI (gb (1 ≤ p ∧ p ≤ 10000))]) (d' := 0) (av := [gI p, gI 1, gI 10000]) ms_mX12_isIn st_mX12_isIn lk_X12_254 rfl rfl (Nat.le_of_ble_eq_true rfl) (Nat.le_of_ble_eq_true rfl) dX12_owns_31 rfl rfl (mo_isIn (gUp σ 133 0 0) p 1 10000) ?_
        refine v_if_neB (pc' := 37) (t := 40) dX12_owns_34 rfl rfl (fun c_34 => ?_) (fun c_34 => ?_)
        · skip
          refine w_iload (pc' := 42) (by rfl) dX12_owns_40 rfl ?_
          refine w_iload (pc' := 44) (by rfl) dX12_owns_42 rfl ?_
          refine w_iconst (pc' := 45) (by decide) dX12_owns_44 rfl ?_
          refine v_callSE (pc' := 48) (st' := [gI (gb ((0 ≤ a ∧ a ≤ 9999) ∧ (u = -1 ∨ (0 ≤ u ∧ u ≤ 9999) ∧ a + 1 ≤ u)))]) (d' := 1) (av := [gI a, gI u, gI 1]) ms_mX12_areDays st_mX12_areDays lk_X12_292 rfl rfl (Nat.le_of_ble_eq_true rfl) (Nat.le_of_ble_eq_true rfl) dX12_owns_45 rfl rfl (mo_areDays (gUp σ 133 0 0) a u 1 (by decide)) ?_
          refine v_if_neB (pc' := 51) (t := 54) dX12_owns_48 rfl rfl (fun c_48 => ?_) (fun c_48 => ?_)
          · skip
            have hj_68 : Wp mX12_owns 30 (rE (gI (if ((0 ≤ x ∧ x < σ 3 2) ∧ ((0 ≤ f ∧ f < σ 3 2) ∧ σ 4 f ≠ 0) ∧ x ≠ f ∧ 1 ≤ p ∧ p ≤ 10000) then if ((0 ≤ a ∧ a ≤ 9999) ∧ (u = -1 ∨ (0 ≤ u ∧ u ≤ 9999) ∧ a + 1 ≤ u)) then if XC σ f p a u = 0 then -5 else -4 else -3 else -2)) (gUp σ 133 0 0)) (gUp σ 133 0 0) 68 [gR 133, gI x, gI f, gI p, gI a, gI u, gX 1, gX 1, gX 1, gX 1] [gI (ev u)] := by
              refine w_istore (pc' := 70) (ls' := [gR 133, gI x, gI f, gI p, gI a, gI u, gI (ev u), gX 1, gX 1, gX 1]) (by decide) (by rfl) dX12_owns_68 rfl ?_
              refine w_aload_n (pc' := 71) (i := 0) (by rfl) (by rfl) dX12_owns_70 rfl ?_
              refine w_iload_n (pc' := 72) (i := 2) (by rfl) (by rfl) dX12_owns_71 rfl ?_
              refine w_iload (pc' := 74) (by rfl) dX12_owns_72 rfl ?_
              refine v_callVE (pc' := 77) (st' := [gI (ALL σ f a)]) (d' := 1) (av := [gI f, gI a]) mi_mX12_allOn lk_X12_295 rfl ci_X12 kd_133 rfl (Nat.le_of_ble_eq_true rfl) (Nat.le_of_ble_eq_true rfl) dX12_owns_74 rfl rfl (q_allOn hI (gUp σ 133 0 0) rfl rfl rfl rfl rfl f a) ?_
              refine w_istore (pc' := 79) (ls' := [gR 133, gI x, gI f, gI p, gI a, gI u, gI (ev u), gI (ALL σ f a), gX 1, gX 1]) (by decide) (by rfl) dX12_owns_77 rfl ?_
              refine w_iconst (pc' := 80) (by decide) dX12_owns_79 rfl ?_
              refine w_istore (pc' := 82) (ls' := [gR 133, gI x, gI f, gI p, gI a, gI u, gI (ev u), gI (ALL σ f a), gI 0, gX 1]) (by decide) (by rfl) dX12_owns_80 rfl ?_
              have hl_82 : ∀ (mm : Nat) (k m : Int), (σ 15 6 - k).toNat = mm → (0 ≤ k) → (k ≤ σ 15 6) → (ALL σ f a ≤ m ∧ m ≤ 10000) → (∀ j, 0 ≤ j → j < k → σ 17 j = f → a < σ 19 j → (u = -1 ∨ σ 19 j < u) → ALL σ f (σ 19 j) ≤ m) → (∀ _ : Unit, (m = ALL σ f a ∨ ∃ j, 0 ≤ j ∧ j < σ 15 6 ∧ (σ 17 j = f ∧ a < σ 19 j ∧ (u = -1 ∨ σ 19 j < u)) ∧ m = ALL σ f (σ 19 j))) → Wp mX12_owns 30 (rE (gI (if ((0 ≤ x ∧ x < σ 3 2) ∧ ((0 ≤ f ∧ f < σ 3 2) ∧ σ 4 f ≠ 0) ∧ x ≠ f ∧ 1 ≤ p ∧ p ≤ 10000) then if ((0 ≤ a ∧ a ≤ 9999) ∧ (u = -1 ∨ (0 ≤ u ∧ u ≤ 9999) ∧ a + 1 ≤ u)) then if XC σ f p a u = 0 then -5 else -4 else -3 else -2)) (gUp σ 133 0 0)) (gUp σ 133 0 0) 82 [gR 133, gI x, gI f, gI p, gI a, gI u, gI (ev u), gI m, gI k, gX 1] [] := by
                intro m_82
                induction m_82 using Nat.strongRecOn with
                | _ m_82 ih_82 =>
                  intro k m hmeas_82 h0 h1 hm hle hex
                  have hday := fun h : k < σ 15 6 => own_day hI h0 h
                  have hall := ALL_in hI f (σ 19 k)
                  have hev : (u = -1 ∧ ev u = 2147483647) ∨ (u ≠ -1 ∧ ev u = u) := by
                    unfold ev
                    by_cases c : u = -1
                    · exact Or.inl ⟨c, if_pos c⟩
                    · exact Or.inr ⟨c, if_neg c⟩
                  have hxe : σ 15 6 ≤ k → (XC σ f p a u = 0 ↔ m + p ≤ 10000) := fun h => by
                    constructor
                    · intro z
                      rcases hex () with e | ⟨j, j0, j1, j2, j3⟩
                      · by_cases c : 10000 < p + ALL σ f a
                        · have := XC_1 (σ := σ) (u := u) c; omega
                        · omega
                      · by_cases c : 10000 < p + ALL σ f (σ 19 j)
                        · have := XC_2 (p := p) j0 j1 ⟨j2.1, j2.2.1, j2.2.2, c⟩; omega
                        · omega
                    · intro z
                      refine XC_0 (by omega) fun i a1 a2 a3 => ?_
                      have := hle i a1 (by omega) a3.1 a3.2.1 a3.2.2.1
                      omega
                  refine w_iload (pc' := 84) (by rfl) dX12_owns_82 rfl ?_
                  refine w_aload_n (pc' := 85) (i := 0) (by rfl) (by rfl) dX12_owns_84 rfl ?_
                  refine v_getI (pc' := 88) (ji := 14) rfl fg_X12_283 kd_133 dX12_owns_85 rfl ?_
                  show Wp _ _ _ _ _ _ [gI (σ 133 14), gI k]
                  rw [hI.f14]
                  refine w_icmp_ge (pc' := 91) (t := 160) dX12_owns_88 rfl rfl (fun c_88 => ?_) (fun c_88 => ?_)
                  · skip
                    refine w_iload (pc' := 162) (by rfl) dX12_owns_160 rfl ?_
                    refine w_iload_n (pc' := 163) (i := 3) (by rfl) (by rfl) dX12_owns_162 rfl ?_
                    refine v_iadd (pc' := 164) (by omega) dX12_owns_163 rfl ?_
                    refine w_sipush (pc' := 167) (by decide) (by decide) dX12_owns_164 rfl ?_
                    refine w_icmp_le (pc' := 170) (t := 173) dX12_owns_167 rfl rfl (fun c_167 => ?_) (fun c_167 => ?_)
                    · skip
                      refine w_aload_n (pc' := 174) (i := 0) (by rfl) (by rfl) dX12_owns_173 rfl ?_
                      refine v_getI (pc' := 177) (ji := 14) rfl fg_X12_283 kd_133 dX12_owns_174 rfl ?_
                      show Wp _ _ _ _ _ _ [gI (σ 133 14)]
                      rw [hI.f14]
                      refine w_sipush (pc' := 180) (by decide) (by decide) dX12_owns_177 rfl ?_
                      refine w_icmp_ne (pc' := 183) (t := 186) dX12_owns_180 rfl rfl (fun c_180 => ?_) (fun c_180 => ?_)
                      · skip
                        refine w_aload_n (pc' := 187) (i := 0) (by rfl) (by rfl) dX12_owns_186 rfl ?_
                        refine w_getS (pc' := 190) (q := 137) fg_X12_24 kd_133 sf_X12_8 gr_133_8 dX12_owns_187 rfl ?_
                        refine w_aload_n (pc' := 191) (i := 0) (by rfl) (by rfl) dX12_owns_190 rfl ?_
                        refine v_getI (pc' := 194) (ji := 14) rfl fg_X12_283 kd_133 dX12_owns_191 rfl ?_
                        show Wp _ _ _ _ _ _ [gI (σ 133 14), gR 137]
                        rw [hI.f14]
                        refine w_iload_n (pc' := 195) (i := 1) (by rfl) (by rfl) dX12_owns_194 rfl ?_
                        refine w_iast (pc' := 196) kd_137 (by omega) (by omega) dX12_owns_195 rfl ?_
                        refine w_aload_n (pc' := 197) (i := 0) (by rfl) (by rfl) dX12_owns_196 rfl ?_
                        refine w_getS (pc' := 200) (q := 138) fg_X12_27 kd_133 sf_X12_9 gr_133_9 dX12_owns_197 rfl ?_
                        refine w_aload_n (pc' := 201) (i := 0) (by rfl) (by rfl) dX12_owns_200 rfl ?_
                        refine v_getI (pc' := 204) (ji := 14) rfl fg_X12_283 kd_133 dX12_owns_201 rfl ?_
                        show Wp _ _ _ _ _ _ [gI (σ 133 14), gR 138]
                        rw [hI.f14]
                        refine w_iload_n (pc' := 205) (i := 2) (by rfl) (by rfl) dX12_owns_204 rfl ?_
                        refine w_iast (pc' := 206) kd_138 (by omega) (by omega) dX12_owns_205 rfl ?_
                        refine w_aload_n (pc' := 207) (i := 0) (by rfl) (by rfl) dX12_owns_206 rfl ?_
                        refine w_getS (pc' := 210) (q := 139) fg_X12_30 kd_133 sf_X12_10 gr_133_10 dX12_owns_207 rfl ?_
                        refine w_aload_n (pc' := 211) (i := 0) (by rfl) (by rfl) dX12_owns_210 rfl ?_
                        refine v_getI (pc' := 214) (ji := 14) rfl fg_X12_283 kd_133 dX12_owns_211 rfl ?_
                        show Wp _ _ _ _ _ _ [gI (σ 133 14), gR 139]
                        rw [hI.f14]
                        refine w_iload_n (pc' := 215) (i := 3) (by rfl) (by rfl) dX12_owns_214 rfl ?_
                        refine w_iast (pc' := 216) kd_139 (by omega) (by omega) dX12_owns_215 rfl ?_
                        refine w_aload_n (pc' := 217) (i := 0) (by rfl) (by rfl) dX12_owns_216 rfl ?_
                        refine w_getS (pc' := 220) (q := 140) fg_X12_33 kd_133 sf_X12_11 gr_133_11 dX12_owns_217 rfl ?_
                        refine w_aload_n (pc' := 221) (i := 0) (by rfl) (by rfl) dX12_owns_220 rfl ?_
                        refine v_getI (pc' := 224) (ji := 14) rfl fg_X12_283 kd_133 dX12_owns_221 rfl ?_
                        show Wp _ _ _ _ _ _ [gI (σ 133 14), gR 140]
                        rw [hI.f14]
                        refine w_iload (pc' := 226) (by rfl) dX12_owns_224 rfl ?_
                        refine w_iast (pc' := 227) kd_140 (by omega) (by omega) dX12_owns_226 rfl ?_
                        refine w_aload_n (pc' := 228) (i := 0) (by rfl) (by rfl) dX12_owns_227 rfl ?_
                        refine w_getS (pc' := 231) (q := 141) fg_X12_36 kd_133 sf_X12_12 gr_133_12 dX12_owns_228 rfl ?_
                        refine w_aload_n (pc' := 232) (i := 0) (by rfl) (by rfl) dX12_owns_231 rfl ?_
                        refine v_getI (pc' := 235) (ji := 14) rfl fg_X12_283 kd_133 dX12_owns_232 rfl ?_
                        show Wp _ _ _ _ _ _ [gI (σ 133 14), gR 141]
                        rw [hI.f14]
                        refine w_iload (pc' := 237) (by rfl) dX12_owns_235 rfl ?_
                        refine w_iast (pc' := 238) kd_141 (by omega) (by omega) dX12_owns_237 rfl ?_
                        refine w_aload_n (pc' := 239) (i := 0) (by rfl) (by rfl) dX12_owns_238 rfl ?_
                        refine w_getS (pc' := 242) (q := 142) fg_X12_39 kd_133 sf_X12_13 gr_133_13 dX12_owns_239 rfl ?_
                        refine w_aload_n (pc' := 243) (i := 0) (by rfl) (by rfl) dX12_owns_242 rfl ?_
                        refine v_getI (pc' := 246) (ji := 14) rfl fg_X12_283 kd_133 dX12_owns_243 rfl ?_
                        show Wp _ _ _ _ _ _ [gI (σ 133 14), gR 142]
                        rw [hI.f14]
                        refine w_aload_n (pc' := 247) (i := 0) (by rfl) (by rfl) dX12_owns_246 rfl ?_
                        refine v_getI (pc' := 250) (ji := 3) rfl fg_X12_258 kd_133 dX12_owns_247 rfl ?_
                        show Wp _ _ _ _ _ _ [gI (σ 133 3), gI (σ 15 6), gR 142]
                        rw [hI.f3]
                        refine w_iast (pc' := 251) kd_142 (by omega) (by omega) dX12_owns_250 rfl ?_
                        refine w_aload_n (pc' := 252) (i := 0) (by rfl) (by rfl) dX12_owns_251 rfl ?_
                        refine w_dup (pc' := 253) dX12_owns_252 rfl ?_
                        refine v_getI (pc' := 256) (ji := 14) rfl fg_X12_283 kd_133 dX12_owns_253 rfl ?_
                        show Wp _ _ _ _ _ _ [gI (σ 133 14), gR 133]
                        rw [hI.f14]
                        refine w_iconst (pc' := 257) (by decide) dX12_owns_256 rfl ?_
                        refine v_iadd (pc' := 258) (by omega) dX12_owns_257 rfl ?_
                        refine v_putI (pc' := 261) (ji := 14) rfl fp_X12_283 kd_133 sf_X12_14 dX12_owns_258 rfl ?_
                        refine w_aload_n (pc' := 262) (i := 0) (by rfl) (by rfl) dX12_owns_261 rfl ?_
                        refine w_dup (pc' := 263) dX12_owns_262 rfl ?_
                        refine v_getI (pc' := 266) (ji := 7) rfl fg_X12_20 kd_133 dX12_owns_263 rfl ?_
                        show Wp _ _ _ _ _ _ [gI (σ 133 7), gR 133]
                        refine w_iconst (pc' := 267) (by decide) dX12_owns_266 rfl ?_
                        refine v_iadd (pc' := 268) (by omega) dX12_owns_267 rfl ?_
                        refine v_putI (pc' := 271) (ji := 7) rfl fp_X12_20 kd_133 sf_X12_7 dX12_owns_268 rfl ?_
                        refine w_aload_n (pc' := 272) (i := 0) (by rfl) (by rfl) dX12_owns_271 rfl ?_
                        refine v_getI (pc' := 275) (ji := 14) rfl fg_X12_283 kd_133 dX12_owns_272 rfl ?_
                        show Wp _ _ _ _ _ _ [gI ((σ 15 6) + 1)]
                        refine w_iconst (pc' := 276) (by decide) dX12_owns_275 rfl ?_
                        refine v_isub (pc' := 277) (by omega) dX12_owns_276 rfl ?_
                        refine v_ireturn rfl dX12_owns_277 ?_
                        first
                          | (exfalso; omega)
                          | exact ⟨(by first | rfl | exact congrArg gI (by omega) | exact congrArg gI (gb_t (by omega)) | exact congrArg gI (gb_f (by omega)) | (refine congrArg gI ?_; (repeat' split) <;> omega)), rfl⟩
                      · skip
                        refine w_bipush (pc' := 185) (by decide) (by decide) dX12_owns_183 rfl ?_
                        refine v_ireturn rfl dX12_owns_185 ?_
                        first
                          | (exfalso; omega)
                          | exact ⟨(by first | rfl | exact congrArg gI (by omega) | exact congrArg gI (gb_t (by omega)) | exact congrArg gI (gb_f (by omega)) | (refine congrArg gI ?_; (repeat' split) <;> omega)), rfl⟩
                    · skip
                      refine w_bipush (pc' := 172) (by decide) (by decide) dX12_owns_170 rfl ?_
                      refine v_ireturn rfl dX12_owns_172 ?_
                      first
                        | (exfalso; omega)
                        | exact ⟨(by first | rfl | exact congrArg gI (by omega) | exact congrArg gI (gb_t (by omega)) | exact congrArg gI (gb_f (by omega)) | (refine congrArg gI ?_; (repeat' split) <;> omega)), rfl⟩
                  · skip
                    refine w_aload_n (pc' := 92) (i := 0) (by rfl) (by rfl) dX12_owns_91 rfl ?_
                    refine w_getS (pc' := 95) (q := 138) fg_X12_27 kd_133 sf_X12_9 gr_133_9 dX12_owns_92 rfl ?_
                    refine w_iload (pc' := 97) (by rfl) dX12_owns_95 rfl ?_
                    refine w_iald (pc' := 98) kd_138 (by omega) (by omega) dX12_owns_97 rfl ?_
                    show Wp _ _ _ _ _ _ [gI (σ 138 k)]
                    rw [hI.e138 (i := k) (by omega) (by omega)]
                    refine w_iload_n (pc' := 99) (i := 2) (by rfl) (by rfl) dX12_owns_98 rfl ?_
                    refine w_icmp_ne (pc' := 102) (t := 154) dX12_owns_99 rfl rfl (fun c_99 => ?_) (fun c_99 => ?_)
                    · skip
                      refine v_iinc (pc' := 157) (x := k) (ls' := [gR 133, gI x, gI f, gI p, gI a, gI u, gI (ev u), gI m, gI (k + 1), gX 1]) (by omega) (by decide) (by rfl) (by rfl) dX12_owns_154 rfl ?_
                      refine w_goto (pc' := 82) dX12_owns_157 rfl ?_
                      exact ih_82 _ (by omega) (k + 1) m rfl (by omega) (by omega) (by first | exact hm | omega) (by intro j j0 j1 d1 d2 d3; by_cases e : j = k; (rw [e] at d1 d2 d3 ⊢; first | (exfalso; omega) | omega); (have := hle j j0 (by omega) d1 d2 d3; omega)) (by first | exact hex | exact fun _ => .inr ⟨k, h0, by omega, ⟨by omega, by omega, by omega⟩, rfl⟩)
                    · skip
                      refine w_aload_n (pc' := 103) (i := 0) (by rfl) (by rfl) dX12_owns_102 rfl ?_
                      refine w_getS (pc' := 106) (q := 140) fg_X12_33 kd_133 sf_X12_11 gr_133_11 dX12_owns_103 rfl ?_
                      refine w_iload (pc' := 108) (by rfl) dX12_owns_106 rfl ?_
                      refine w_iald (pc' := 109) kd_140 (by omega) (by omega) dX12_owns_108 rfl ?_
                      show Wp _ _ _ _ _ _ [gI (σ 140 k)]
                      rw [hI.e140 (i := k) (by omega) (by omega)]
                      refine w_iload (pc' := 111) (by rfl) dX12_owns_109 rfl ?_
                      refine w_icmp_le (pc' := 114) (t := 154) dX12_owns_111 rfl rfl (fun c_111 => ?_) (fun c_111 => ?_)
                      · skip
                        refine v_iinc (pc' := 157) (x := k) (ls' := [gR 133, gI x, gI f, gI p, gI a, gI u, gI (ev u), gI m, gI (k + 1), gX 1]) (by omega) (by decide) (by rfl) (by rfl) dX12_owns_154 rfl ?_
                        refine w_goto (pc' := 82) dX12_owns_157 rfl ?_
                        exact ih_82 _ (by omega) (k + 1) m rfl (by omega) (by omega) (by first | exact hm | omega) (by intro j j0 j1 d1 d2 d3; by_cases e : j = k; (rw [e] at d1 d2 d3 ⊢; first | (exfalso; omega) | omega); (have := hle j j0 (by omega) d1 d2 d3; omega)) (by first | exact hex | exact fun _ => .inr ⟨k, h0, by omega, ⟨by omega, by omega, by omega⟩, rfl⟩)
                      · skip
                        refine w_aload_n (pc' := 115) (i := 0) (by rfl) (by rfl) dX12_owns_114 rfl ?_
                        refine w_getS (pc' := 118) (q := 140) fg_X12_33 kd_133 sf_X12_11 gr_133_11 dX12_owns_115 rfl ?_
                        refine w_iload (pc' := 120) (by rfl) dX12_owns_118 rfl ?_
                        refine w_iald (pc' := 121) kd_140 (by omega) (by omega) dX12_owns_120 rfl ?_
                        show Wp _ _ _ _ _ _ [gI (σ 140 k)]
                        rw [hI.e140 (i := k) (by omega) (by omega)]
                        refine w_iload (pc' := 123) (by rfl) dX12_owns_121 rfl ?_
                        refine w_icmp_lt (pc' := 126) (t := 129) dX12_owns_123 rfl rfl (fun c_123 => ?_) (fun c_123 => ?_)
                        · skip
                          refine w_aload_n (pc' := 130) (i := 0) (by rfl) (by rfl) dX12_owns_129 rfl ?_
                          refine w_iload_n (pc' := 131) (i := 2) (by rfl) (by rfl) dX12_owns_130 rfl ?_
                          refine w_aload_n (pc' := 132) (i := 0) (by rfl) (by rfl) dX12_owns_131 rfl ?_
                          refine w_getS (pc' := 135) (q := 140) fg_X12_33 kd_133 sf_X12_11 gr_133_11 dX12_owns_132 rfl ?_
                          refine w_iload (pc' := 137) (by rfl) dX12_owns_135 rfl ?_
                          refine w_iald (pc' := 138) kd_140 (by omega) (by omega) dX12_owns_137 rfl ?_
                          show Wp _ _ _ _ _ _ [gI (σ 140 k), gI f, gR 133]
                          rw [hI.e140 (i := k) (by omega) (by omega)]
                          refine v_callVE (pc' := 141) (st' := [gI (ALL σ f (σ 19 k))]) (d' := 1) (av := [gI f, gI (σ 19 k)]) mi_mX12_allOn lk_X12_295 rfl ci_X12 kd_133 rfl (Nat.le_of_ble_eq_true rfl) (Nat.le_of_ble_eq_true rfl) dX12_owns_138 rfl rfl (q_allOn hI (gUp σ 133 0 0) rfl rfl rfl rfl rfl f (σ 19 k)) ?_
                          refine w_istore (pc' := 143) (ls' := [gR 133, gI x, gI f, gI p, gI a, gI u, gI (ev u), gI m, gI k, gI (ALL σ f (σ 19 k))]) (by decide) (by rfl) dX12_owns_141 rfl ?_
                          refine w_iload (pc' := 145) (by rfl) dX12_owns_143 rfl ?_
                          refine w_iload (pc' := 147) (by rfl) dX12_owns_145 rfl ?_
                          refine w_icmp_le (pc' := 150) (t := 154) dX12_owns_147 rfl rfl (fun c_147 => ?_) (fun c_147 => ?_)
                          · skip
                            refine v_iinc (pc' := 157) (x := k) (ls' := [gR 133, gI x, gI f, gI p, gI a, gI u, gI (ev u), gI m, gI (k + 1), gI (ALL σ f (σ 19 k))]) (by omega) (by decide) (by rfl) (by rfl) dX12_owns_154 rfl ?_
                            refine w_goto (pc' := 82) dX12_owns_157 rfl ?_
                            refine Wp.lose (ls' := [gR 133, gI x, gI f, gI p, gI a, gI u, gI (ev u), gI m, gI (k + 1), gX 1]) ⟨.inr rfl, ⟨.inr rfl, ⟨.inr rfl, ⟨.inr rfl, ⟨.inr rfl, ⟨.inr rfl, ⟨.inr rfl, ⟨.inr rfl, ⟨.inr rfl, ⟨.inl rfl, trivial⟩⟩⟩⟩⟩⟩⟩⟩⟩⟩ ?_
                            exact ih_82 _ (by omega) (k + 1) m rfl (by omega) (by omega) (by first | exact hm | omega) (by intro j j0 j1 d1 d2 d3; by_cases e : j = k; (rw [e] at d1 d2 d3 ⊢; first | (exfalso; omega) | omega); (have := hle j j0 (by omega) d1 d2 d3; omega)) (by first | exact hex | exact fun _ => .inr ⟨k, h0, by omega, ⟨by omega, by omega, by omega⟩, rfl⟩)
                          · skip
                            refine w_iload (pc' := 152) (by rfl) dX12_owns_150 rfl ?_
                            refine w_istore (pc' := 154) (ls' := [gR 133, gI x, gI f, gI p, gI a, gI u, gI (ev u), gI (ALL σ f (σ 19 k)), gI k, gI (ALL σ f (σ 19 k))]) (by decide) (by rfl) dX12_owns_152 rfl ?_
                            refine v_iinc (pc' := 157) (x := k) (ls' := [gR 133, gI x, gI f, gI p, gI a, gI u, gI (ev u), gI (ALL σ f (σ 19 k)), gI (k + 1), gI (ALL σ f (σ 19 k))]) (by omega) (by decide) (by rfl) (by rfl) dX12_owns_154 rfl ?_
                            refine w_goto (pc' := 82) dX12_owns_157 rfl ?_
                            refine Wp.lose (ls' := [gR 133, gI x, gI f, gI p, gI a, gI u, gI (ev u), gI (ALL σ f (σ 19 k)), gI (k + 1), gX 1]) ⟨.inr rfl, ⟨.inr rfl, ⟨.inr rfl, ⟨.inr rfl, ⟨.inr rfl, ⟨.inr rfl, ⟨.inr rfl, ⟨.inr rfl, ⟨.inr rfl, ⟨.inl rfl, trivial⟩⟩⟩⟩⟩⟩⟩⟩⟩⟩ ?_
                            exact ih_82 _ (by omega) (k + 1) (ALL σ f (σ 19 k)) rfl (by omega) (by omega) (by first | exact hm | omega) (by intro j j0 j1 d1 d2 d3; by_cases e : j = k; (rw [e] at d1 d2 d3 ⊢; first | (exfalso; omega) | omega); (have := hle j j0 (by omega) d1 d2 d3; omega)) (by first | exact hex | exact fun _ => .inr ⟨k, h0, by omega, ⟨by omega, by omega, by omega⟩, rfl⟩)
                        · skip
                          refine w_goto (pc' := 154) dX12_owns_126 rfl ?_
                          refine v_iinc (pc' := 157) (x := k) (ls' := [gR 133, gI x, gI f, gI p, gI a, gI u, gI (ev u), gI m, gI (k + 1), gX 1]) (by omega) (by decide) (by rfl) (by rfl) dX12_owns_154 rfl ?_
                          refine w_goto (pc' := 82) dX12_owns_157 rfl ?_
                          exact ih_82 _ (by omega) (k + 1) m rfl (by omega) (by omega) (by first | exact hm | omega) (by intro j j0 j1 d1 d2 d3; by_cases e : j = k; (rw [e] at d1 d2 d3 ⊢; first | (exfalso; omega) | omega); (have := hle j j0 (by omega) d1 d2 d3; omega)) (by first | exact hex | exact fun _ => .inr ⟨k, h0, by omega, ⟨by omega, by omega, by omega⟩, rfl⟩)
              exact hl_82 _ 0 (ALL σ f a) rfl (by omega) (by omega) (by have := ALL_in hI f a; omega) (by intro j a b; omega) (by exact fun _ => .inl rfl)
            refine w_iload (pc' := 56) (by rfl) dX12_owns_54 rfl ?_
            refine w_iconst (pc' := 57) (by decide) dX12_owns_56 rfl ?_
            refine w_icmp_ne (pc' := 60) (t := 66) dX12_owns_57 rfl rfl (fun c_57 => ?_) (fun c_57 => ?_)
            · skip
              refine w_iload (pc' := 68) (by rfl) dX12_owns_66 rfl ?_
              exact Wp.stI (by first | (exfalso; omega) | (unfold ev; first | (rw [if_pos (by omega)]) | (rw [if_neg (by omega)]))) hj_68
            · skip
              refine w_ldc_w (pc' := 63) (by decide) ct_X12_282 dX12_owns_60 rfl ?_
              refine w_goto (pc' := 68) dX12_owns_63 rfl ?_
              exact Wp.stI (by first | (exfalso; omega) | (unfold ev; first | (rw [if_pos (by omega)]) | (rw [if_neg (by omega)]))) hj_68
          · skip
            refine w_bipush (pc' := 53) (by decide) (by decide) dX12_owns_51 rfl ?_
            refine v_ireturn rfl dX12_owns_53 ?_
            first
              | (exfalso; omega)
              | exact ⟨(by first | rfl | exact congrArg gI (by omega) | exact congrArg gI (gb_t (by omega)) | exact congrArg gI (gb_f (by omega)) | (refine congrArg gI ?_; (repeat' split) <;> omega)), rfl⟩
        · skip
          refine w_bipush (pc' := 39) (by decide) (by decide) dX12_owns_37 rfl ?_
          refine v_ireturn rfl dX12_owns_39 ?_
          first
            | (exfalso; omega)
            | exact ⟨(by first | rfl | exact congrArg gI (by omega) | exact congrArg gI (gb_t (by omega)) | exact congrArg gI (gb_f (by omega)) | (refine congrArg gI ?_; (repeat' split) <;> omega)), rfl⟩
