/-! laws: the walks (gen/mod_hold2.py) -/
theorem and1_iff {z : Int} : gB64 (fun a b => a &&& b) z 1 ≠ 0 ↔ bitI z 0 := by
  rw [bitI_iff (by omega) (by omega)]
  have e2 : (gB64 (fun a b => a &&& b) z 1 = 0) ↔ (Int64.ofInt z).toBitVec &&& 1#64 = 0#64 := by
    constructor
    · intro h
      have h2 := gB64_back (fun a b => a &&& b) z 1
      rw [h] at h2
      exact (congrArg Int64.toBitVec h2).symm
    · intro h
      unfold gB64
      have h3 : (Int64.ofInt z &&& Int64.ofInt 1) = 0 := Int64.toBitVec_inj.mp h
      show (Int64.ofInt z &&& Int64.ofInt 1).toInt = 0
      rw [h3]
      rfl
  rw [Ne, e2, bv_and1]
  simp
theorem EN_s {n k z : Int} {mk tv : Int → Int} (h : wfP n mk) (h0 : 0 ≤ k) (h1 : k < n) (e : EN z (htM mk k.toNat) (stV mk tv k.toNat)) (ht : tv k = 0 ∨ tv k = 1) :
    (mk k = 14 → EN (gB64 (fun a b => a ^^^ b) z 1) (htM mk (k + 1).toNat) (stV mk tv (k + 1).toNat)) ∧
    (mk k = 15 → EN (gB64 (fun a b => a ||| b) (gS64 (fun a b => a <<< b) (gS64U z 2) 1) (gB64 (fun a b => a &&& b) (gB64 (fun a b => a &&& b) z (gS64U z 1)) 1)) (htM mk (k + 1).toNat) (stV mk tv (k + 1).toNat)) ∧
    (mk k = 16 → EN (gB64 (fun a b => a ||| b) (gS64 (fun a b => a <<< b) (gS64U z 2) 1) (gB64 (fun a b => a &&& b) (gB64 (fun a b => a ||| b) z (gS64U z 1)) 1)) (htM mk (k + 1).toNat) (stV mk tv (k + 1).toNat)) ∧
    (mk k ≠ 14 → mk k ≠ 15 → mk k ≠ 16 → EN (gB64 (fun a b => a ||| b) (gS64 (fun a b => a <<< b) z 1) (tv k)) (htM mk (k + 1).toNat) (stV mk tv (k + 1).toNat)) := by
  have w := h.at h0 h1
  rw [stV_n h0]
  refine ⟨fun a => ?_, fun a => ?_, fun a => ?_, fun a b c => ?_⟩
  · have x := w.2.2.2.2.1 a
    rw [if_pos a, x.2]
    exact e.not x.1 w.2.1
  · have x := w.2.2.2.2.2.1 (Or.inl a)
    rw [if_neg (by omega), if_pos a, x.2]
    exact e.and x.1 w.2.1
  · have x := w.2.2.2.2.2.1 (Or.inr a)
    rw [if_neg (by omega), if_neg (by omega), if_pos a, x.2]
    exact e.or x.1 w.2.1
  · have x := w.2.2.2.2.2.2 a b c
    rw [if_neg a, if_neg b, if_neg c, x]
    exact e.atom w.1 (by omega) ht
theorem VS_s {n k h : Int} {mk tv V : Int → Int} (hw : wfP n mk) (h0 : 0 ≤ k) (h1 : k < n) (hh : h = htM mk k.toNat) (e : ∀ j, 0 ≤ j → j < h → V j = stV mk tv k.toNat j) :
    (mk k = 14 → 1 ≤ h ∧ htM mk (k + 1).toNat = h ∧ ∀ w, w = (if V (h - 1) = 0 then 1 else 0) → ∀ j, 0 ≤ j → j < h → updI V (h - 1) w j = stV mk tv (k + 1).toNat j) ∧
    (mk k = 15 → 2 ≤ h ∧ htM mk (k + 1).toNat = h - 1 ∧ ∀ w, w = (if V (h - 2) ≠ 0 ∧ V (h - 1) ≠ 0 then 1 else 0) → ∀ j, 0 ≤ j → j < h - 1 → updI V (h - 2) w j = stV mk tv (k + 1).toNat j) ∧
    (mk k = 16 → 2 ≤ h ∧ htM mk (k + 1).toNat = h - 1 ∧ ∀ w, w = (if V (h - 2) ≠ 0 ∨ V (h - 1) ≠ 0 then 1 else 0) → ∀ j, 0 ≤ j → j < h - 1 → updI V (h - 2) w j = stV mk tv (k + 1).toNat j) ∧
    (mk k ≠ 14 → mk k ≠ 15 → mk k ≠ 16 → h ≤ 63 ∧ htM mk (k + 1).toNat = h + 1 ∧ ∀ w, w = tv k → ∀ j, 0 ≤ j → j < h + 1 → updI V h w j = stV mk tv (k + 1).toNat j) := by
  have w := hw.at h0 h1
  rw [← hh] at w
  rw [stV_n h0, ← hh]
  refine ⟨fun a => ?_, fun a => ?_, fun a => ?_, fun a b c => ?_⟩
  · have x := w.2.2.2.2.1 a
    rw [if_pos a]
    refine ⟨x.1, x.2, fun w hw j j0 j1 => ?_⟩
    rw [hw, e (h - 1) (by omega) (by omega)]
    unfold updI
    split
    · rfl
    · exact e j j0 j1
  · have x := w.2.2.2.2.2.1 (Or.inl a)
    rw [if_neg (show ¬ mk k = 14 by omega), if_pos a]
    refine ⟨x.1, x.2, fun w hw j j0 j1 => ?_⟩
    rw [hw, e (h - 1) (by omega) (by omega), e (h - 2) (by omega) (by omega)]
    unfold updI
    split
    · rfl
    · exact e j j0 (by omega)
  · have x := w.2.2.2.2.2.1 (Or.inr a)
    rw [if_neg (show ¬ mk k = 14 by omega), if_neg (show ¬ mk k = 15 by omega), if_pos a]
    refine ⟨x.1, x.2, fun w hw j j0 j1 => ?_⟩
    rw [hw, e (h - 1) (by omega) (by omega), e (h - 2) (by omega) (by omega)]
    unfold updI
    split
    · rfl
    · exact e j j0 (by omega)
  · have x := w.2.2.2.2.2.2 a b c
    rw [if_neg a, if_neg b, if_neg c]
    refine ⟨by omega, x, fun w hw j j0 j1 => ?_⟩
    rw [hw]
    unfold updI
    split
    · rfl
    · exact e j j0 (by omega)
theorem l_kinLimit {c : Nat} (hc : isLw c) (σ : gH)  : Mt mX4_kinLimit 0 [gR c] σ (rE (gI (σ c 4)) σ) := by
  refine Mt.walk (ls := [gR c]) pn_X4 rfl (fun _ _ h => by cases h.1) (Nat.le_of_ble_eq_true rfl) rfl ?_
  obtain ⟨K0, K1, K2, K3, K4, K5, K6, R9, R10, R11, R12, R13, R14⟩ := hc
  refine w_aload_n (pc' := 1) (i := 0) (by rfl) (by rfl) dX4_kinLimit_0 rfl ?_
  refine v_getI (pc' := 4) (ji := 4) rfl fg_X4_11 K0 dX4_kinLimit_1 rfl ?_
  refine v_ireturn rfl dX4_kinLimit_4 ?_
  exact ⟨rfl, rfl⟩
theorem l_year {c : Nat} (hc : isLw c) (σ : gH)  : Mt mX4_year 0 [gR c] σ (rE (gI (σ c 5)) σ) := by
  refine Mt.walk (ls := [gR c]) pn_X4 rfl (fun _ _ h => by cases h.1) (Nat.le_of_ble_eq_true rfl) rfl ?_
  obtain ⟨K0, K1, K2, K3, K4, K5, K6, R9, R10, R11, R12, R13, R14⟩ := hc
  refine w_aload_n (pc' := 1) (i := 0) (by rfl) (by rfl) dX4_year_0 rfl ?_
  refine v_getI (pc' := 4) (ji := 5) rfl fg_X4_15 K0 dX4_year_1 rfl ?_
  refine v_ireturn rfl dX4_year_4 ?_
  exact ⟨rfl, rfl⟩
theorem l_old {c : Nat} (hc : isLw c) (σ : gH)  : Mt mX4_old 0 [gR c] σ (rE (gI (σ c 6)) σ) := by
  refine Mt.walk (ls := [gR c]) pn_X4 rfl (fun _ _ h => by cases h.1) (Nat.le_of_ble_eq_true rfl) rfl ?_
  obtain ⟨K0, K1, K2, K3, K4, K5, K6, R9, R10, R11, R12, R13, R14⟩ := hc
  refine w_aload_n (pc' := 1) (i := 0) (by rfl) (by rfl) dX4_old_0 rfl ?_
  refine v_getI (pc' := 4) (ji := 6) rfl fg_X4_18 K0 dX4_old_1 rfl ?_
  refine v_ireturn rfl dX4_old_4 ?_
  exact ⟨rfl, rfl⟩
theorem l_link {c : Nat} (hc : isLw c) (σ : gH)  : Mt mX4_link 0 [gR c] σ (rE (gI (σ c 7)) σ) := by
  refine Mt.walk (ls := [gR c]) pn_X4 rfl (fun _ _ h => by cases h.1) (Nat.le_of_ble_eq_true rfl) rfl ?_
  obtain ⟨K0, K1, K2, K3, K4, K5, K6, R9, R10, R11, R12, R13, R14⟩ := hc
  refine w_aload_n (pc' := 1) (i := 0) (by rfl) (by rfl) dX4_link_0 rfl ?_
  refine v_getI (pc' := 4) (ji := 7) rfl fg_X4_21 K0 dX4_link_1 rfl ?_
  refine v_ireturn rfl dX4_link_4 ?_
  exact ⟨rfl, rfl⟩
theorem l_seatsNeeded {c : Nat} (hc : isLw c) (σ : gH)  : Mt mX4_seatsNeeded 0 [gR c] σ (rE (gI (σ c 8)) σ) := by
  refine Mt.walk (ls := [gR c]) pn_X4 rfl (fun _ _ h => by cases h.1) (Nat.le_of_ble_eq_true rfl) rfl ?_
  obtain ⟨K0, K1, K2, K3, K4, K5, K6, R9, R10, R11, R12, R13, R14⟩ := hc
  refine w_aload_n (pc' := 1) (i := 0) (by rfl) (by rfl) dX4_seatsNeeded_0 rfl ?_
  refine v_getI (pc' := 4) (ji := 8) rfl fg_X4_55 K0 dX4_seatsNeeded_1 rfl ?_
  refine v_ireturn rfl dX4_seatsNeeded_4 ?_
  exact ⟨rfl, rfl⟩
theorem l_totalTells {c : Nat} (hc : isLw c) (σ : gH)  : Mt mX4_totalTells 0 [gR c] σ (rE (gI (σ c 3)) σ) := by
  refine Mt.walk (ls := [gR c]) pn_X4 rfl (fun _ _ h => by cases h.1) (Nat.le_of_ble_eq_true rfl) rfl ?_
  obtain ⟨K0, K1, K2, K3, K4, K5, K6, R9, R10, R11, R12, R13, R14⟩ := hc
  refine w_aload_n (pc' := 1) (i := 0) (by rfl) (by rfl) dX4_totalTells_0 rfl ?_
  refine v_getI (pc' := 4) (ji := 3) rfl fg_X4_52 K0 dX4_totalTells_1 rfl ?_
  refine v_ireturn rfl dX4_totalTells_4 ?_
  exact ⟨rfl, rfl⟩
theorem l_since {c : Nat} (hc : isLw c) (σ : gH)  : Mt mX4_since 0 [gR c] σ (rE (gI (σ c 1)) σ) := by
  refine Mt.walk (ls := [gR c]) pn_X4 rfl (fun _ _ h => by cases h.1) (Nat.le_of_ble_eq_true rfl) rfl ?_
  obtain ⟨K0, K1, K2, K3, K4, K5, K6, R9, R10, R11, R12, R13, R14⟩ := hc
  refine w_aload_n (pc' := 1) (i := 0) (by rfl) (by rfl) dX4_since_0 rfl ?_
  refine v_getI (pc' := 4) (ji := 1) rfl fg_X4_43 K0 dX4_since_1 rfl ?_
  refine v_ireturn rfl dX4_since_4 ?_
  exact ⟨rfl, rfl⟩
theorem l_isInForce {c : Nat} (hc : isLw c) (σ : gH) (d t : Int) : Mt mX4_isInForce 0 [gR c, gI d, gI t] σ (rE (gI (gb (σ c 0 ≤ t ∧ σ c 1 ≤ d))) σ) := by
  refine Mt.walk (ls := [gR c, gI d, gI t]) pn_X4 rfl (fun _ _ h => by cases h.1) (Nat.le_of_ble_eq_true rfl) rfl ?_
  obtain ⟨K0, K1, K2, K3, K4, K5, K6, R9, R10, R11, R12, R13, R14⟩ := hc
  refine w_aload_n (pc' := 1) (i := 0) (by rfl) (by rfl) dX4_isInForce_0 rfl ?_
  refine v_getI (pc' := 4) (ji := 0) rfl fg_X4_46 K0 dX4_isInForce_1 rfl ?_
  refine w_iload_n (pc' := 5) (i := 2) (by rfl) (by rfl) dX4_isInForce_4 rfl ?_
  refine w_icmp_gt (pc' := 8) (t := 20) dX4_isInForce_5 rfl rfl (fun c_5 => ?_) (fun c_5 => ?_)
  · skip
    refine w_iconst (pc' := 21) (by decide) dX4_isInForce_20 rfl ?_
    refine w_zreturn rfl (.inl rfl) dX4_isInForce_21 ?_
    first | (exfalso; omega) | exact ⟨gbT (by omega), rfl⟩ | exact ⟨gbF (by omega), rfl⟩
  · skip
    refine w_aload_n (pc' := 9) (i := 0) (by rfl) (by rfl) dX4_isInForce_8 rfl ?_
    refine v_getI (pc' := 12) (ji := 1) rfl fg_X4_43 K0 dX4_isInForce_9 rfl ?_
    refine w_iload_n (pc' := 13) (i := 1) (by rfl) (by rfl) dX4_isInForce_12 rfl ?_
    refine w_icmp_gt (pc' := 16) (t := 20) dX4_isInForce_13 rfl rfl (fun c_13 => ?_) (fun c_13 => ?_)
    · skip
      refine w_iconst (pc' := 21) (by decide) dX4_isInForce_20 rfl ?_
      refine w_zreturn rfl (.inl rfl) dX4_isInForce_21 ?_
      first | (exfalso; omega) | exact ⟨gbT (by omega), rfl⟩ | exact ⟨gbF (by omega), rfl⟩
    · skip
      refine w_iconst (pc' := 17) (by decide) dX4_isInForce_16 rfl ?_
      refine w_goto (pc' := 21) dX4_isInForce_17 rfl ?_
      refine w_zreturn rfl (.inr rfl) dX4_isInForce_21 ?_
      first | (exfalso; omega) | exact ⟨gbT (by omega), rfl⟩ | exact ⟨gbF (by omega), rfl⟩
theorem l_within {c : Nat} (hc : isLw c) (σ : gH) (k : Int) (h : 0 ≤ k ∧ k < 8) : Mt mX4_within 0 [gR c, gI k] σ (rE (gI (σ (c + 1) k)) σ) := by
  refine Mt.walk (ls := [gR c, gI k]) pn_X4 rfl (fun _ _ h => by cases h.1) (Nat.le_of_ble_eq_true rfl) rfl ?_
  obtain ⟨K0, K1, K2, K3, K4, K5, K6, R9, R10, R11, R12, R13, R14⟩ := hc
  refine w_iload_n (pc' := 1) (i := 1) (by rfl) (by rfl) dX4_within_0 rfl ?_
  refine w_if_lt (pc' := 4) (t := 19) dX4_within_1 rfl rfl (fun c_1 => ?_) (fun c_1 => ?_)
  · skip
    refine w_bipush (pc' := 21) (by decide) (by decide) dX4_within_19 rfl ?_
    refine v_ireturn rfl dX4_within_21 ?_
    first | (exfalso; omega) | exact ⟨rfl, rfl⟩
  · skip
    refine w_iload_n (pc' := 5) (i := 1) (by rfl) (by rfl) dX4_within_4 rfl ?_
    refine w_bipush (pc' := 7) (by decide) (by decide) dX4_within_5 rfl ?_
    refine w_icmp_ge (pc' := 10) (t := 19) dX4_within_7 rfl rfl (fun c_7 => ?_) (fun c_7 => ?_)
    · skip
      refine w_bipush (pc' := 21) (by decide) (by decide) dX4_within_19 rfl ?_
      refine v_ireturn rfl dX4_within_21 ?_
      first | (exfalso; omega) | exact ⟨rfl, rfl⟩
    · skip
      refine w_aload_n (pc' := 11) (i := 0) (by rfl) (by rfl) dX4_within_10 rfl ?_
      refine w_getS (pc' := 14) (q := (c + 1)) fg_X4_24 K0 sf_X4_9 R9 dX4_within_11 rfl ?_
      refine w_iload_n (pc' := 15) (i := 1) (by rfl) (by rfl) dX4_within_14 rfl ?_
      refine w_iald (pc' := 16) K1 (by omega) (by omega) dX4_within_15 rfl ?_
      refine w_goto (pc' := 21) dX4_within_16 rfl ?_
      refine v_ireturn rfl dX4_within_21 ?_
      first | (exfalso; omega) | exact ⟨rfl, rfl⟩
theorem l_uses {c : Nat} (hc : isLw c) (σ : gH) (m : Int) (hs : σ c 15 ≤ 120) : Mt mX4_uses 0 [gR c, gI m] σ (rE (gI (anyI (fun i => σ (c + 4) i = m) (σ c 15))) σ) := by
  refine Mt.walk (ls := [gR c, gI m, gX 1]) pn_X4 rfl (fun _ _ h => by cases h.1) (Nat.le_of_ble_eq_true rfl) rfl ?_
  obtain ⟨K0, K1, K2, K3, K4, K5, K6, R9, R10, R11, R12, R13, R14⟩ := hc
  refine w_iconst (pc' := 1) (by decide) dX4_uses_0 rfl ?_
  refine w_istore_n (pc' := 2) (i := 2) (ls' := [gR c, gI m, gI 0]) (by rfl) (by decide) (by rfl) dX4_uses_1 rfl ?_
  have hl_2 : ∀ (mm : Nat) (i : Int), (σ c 15 - i).toNat = mm → (0 ≤ i) → (∀ j, 0 ≤ j → j < i → ¬ (σ (c + 4) j = m)) → Wp mX4_uses 0 (rE (gI (anyI (fun i => σ (c + 4) i = m) (σ c 15))) σ) σ 2 [gR c, gI m, gI i] [] := by
    intro m_2
    induction m_2 using Nat.strongRecOn with
    | _ m_2 ih_2 =>
      intro i hmeas_2 h0 hz
      refine w_iload_n (pc' := 3) (i := 2) (by rfl) (by rfl) dX4_uses_2 rfl ?_
      refine w_aload_n (pc' := 4) (i := 0) (by rfl) (by rfl) dX4_uses_3 rfl ?_
      refine v_getI (pc' := 7) (ji := 15) rfl fg_X4_58 K0 dX4_uses_4 rfl ?_
      refine w_icmp_ge (pc' := 10) (t := 34) dX4_uses_7 rfl rfl (fun c_7 => ?_) (fun c_7 => ?_)
      · skip
        refine w_iconst (pc' := 35) (by decide) dX4_uses_34 rfl ?_
        refine w_zreturn rfl (.inl rfl) dX4_uses_35 ?_
        first | (exfalso; omega) | exact ⟨congrArg gI (anyI_1 h0 (by omega) (by omega)).symm, rfl⟩ | exact ⟨congrArg gI (anyI_0 (fun j a b => hz j a (by omega))).symm, rfl⟩
      · skip
        refine w_iload_n (pc' := 11) (i := 2) (by rfl) (by rfl) dX4_uses_10 rfl ?_
        refine w_bipush (pc' := 13) (by decide) (by decide) dX4_uses_11 rfl ?_
        refine w_icmp_ge (pc' := 16) (t := 34) dX4_uses_13 rfl rfl (fun c_13 => ?_) (fun c_13 => ?_)
        · skip
          refine w_iconst (pc' := 35) (by decide) dX4_uses_34 rfl ?_
          refine w_zreturn rfl (.inl rfl) dX4_uses_35 ?_
          first | (exfalso; omega) | exact ⟨congrArg gI (anyI_1 h0 (by omega) (by omega)).symm, rfl⟩ | exact ⟨congrArg gI (anyI_0 (fun j a b => hz j a (by omega))).symm, rfl⟩
        · skip
          refine w_aload_n (pc' := 17) (i := 0) (by rfl) (by rfl) dX4_uses_16 rfl ?_
          refine w_getS (pc' := 20) (q := (c + 4)) fg_X4_34 K0 sf_X4_12 R12 dX4_uses_17 rfl ?_
          refine w_iload_n (pc' := 21) (i := 2) (by rfl) (by rfl) dX4_uses_20 rfl ?_
          refine w_iald (pc' := 22) K4 (by omega) (by omega) dX4_uses_21 rfl ?_
          refine w_iload_n (pc' := 23) (i := 1) (by rfl) (by rfl) dX4_uses_22 rfl ?_
          refine w_icmp_ne (pc' := 26) (t := 28) dX4_uses_23 rfl rfl (fun c_23 => ?_) (fun c_23 => ?_)
          · skip
            refine v_iinc (pc' := 31) (x := i) (ls' := [gR c, gI m, gI (i + 1)]) (by omega) (by decide) (by rfl) (by rfl) dX4_uses_28 rfl ?_
            refine w_goto (pc' := 2) dX4_uses_31 rfl ?_
            exact ih_2 _ (by omega) (i + 1) rfl (by omega) (by intro j a b; by_cases e : j = i; rw [e]; omega; exact hz j a (by omega))
          · skip
            refine w_iconst (pc' := 27) (by decide) dX4_uses_26 rfl ?_
            refine w_zreturn rfl (.inr rfl) dX4_uses_27 ?_
            first | (exfalso; omega) | exact ⟨congrArg gI (anyI_1 h0 (by omega) (by omega)).symm, rfl⟩ | exact ⟨congrArg gI (anyI_0 (fun j a b => hz j a (by omega))).symm, rfl⟩
  exact hl_2 _ 0 rfl (by omega) (by intro j a b; omega)
theorem l_isTrue {c : Nat} (hc : isLw c) (σ : gH) (i : Int) (hi : 0 ≤ i ∧ i < 120) (hm : 0 ≤ σ (c + 4) i ∧ σ (c + 4) i < 14) : Mt mX4_isTrue 0 [gR c, gI i, gR 111] σ (rE (gI (gb (TVp (σ 111 (σ (c + 4) i)) (σ (c + 5) i) (σ (c + 6) i)))) σ) := by
  refine Mt.walk (ls := [gR c, gI i, gR 111, gX 1]) pn_X4 rfl (fun _ _ h => by cases h.1) (Nat.le_of_ble_eq_true rfl) rfl ?_
  obtain ⟨K0, K1, K2, K3, K4, K5, K6, R9, R10, R11, R12, R13, R14⟩ := hc
  refine w_iload_n (pc' := 1) (i := 1) (by rfl) (by rfl) dX4_isTrue_0 rfl ?_
  refine w_if_lt (pc' := 4) (t := 30) dX4_isTrue_1 rfl rfl (fun c_1 => ?_) (fun c_1 => ?_)
  · skip
    refine w_iconst (pc' := 31) (by decide) dX4_isTrue_30 rfl ?_
    refine w_zreturn rfl (.inl rfl) dX4_isTrue_31 ?_
    first
      | (exfalso; omega)
      | exact ⟨gbT (by unfold TVp; (repeat' split) <;> omega), rfl⟩
      | exact ⟨gbF (by unfold TVp; (repeat' split) <;> omega), rfl⟩
  · skip
    refine w_iload_n (pc' := 5) (i := 1) (by rfl) (by rfl) dX4_isTrue_4 rfl ?_
    refine w_bipush (pc' := 7) (by decide) (by decide) dX4_isTrue_5 rfl ?_
    refine w_icmp_ge (pc' := 10) (t := 30) dX4_isTrue_7 rfl rfl (fun c_7 => ?_) (fun c_7 => ?_)
    · skip
      refine w_iconst (pc' := 31) (by decide) dX4_isTrue_30 rfl ?_
      refine w_zreturn rfl (.inl rfl) dX4_isTrue_31 ?_
      first
        | (exfalso; omega)
        | exact ⟨gbT (by unfold TVp; (repeat' split) <;> omega), rfl⟩
        | exact ⟨gbF (by unfold TVp; (repeat' split) <;> omega), rfl⟩
    · skip
      refine w_aload_n (pc' := 11) (i := 0) (by rfl) (by rfl) dX4_isTrue_10 rfl ?_
      refine w_getS (pc' := 14) (q := (c + 4)) fg_X4_34 K0 sf_X4_12 R12 dX4_isTrue_11 rfl ?_
      refine w_iload_n (pc' := 15) (i := 1) (by rfl) (by rfl) dX4_isTrue_14 rfl ?_
      refine w_iald (pc' := 16) K4 (by omega) (by omega) dX4_isTrue_15 rfl ?_
      refine w_if_lt (pc' := 19) (t := 30) dX4_isTrue_16 rfl rfl (fun c_16 => ?_) (fun c_16 => ?_)
      · skip
        refine w_iconst (pc' := 31) (by decide) dX4_isTrue_30 rfl ?_
        refine w_zreturn rfl (.inl rfl) dX4_isTrue_31 ?_
        first
          | (exfalso; omega)
          | exact ⟨gbT (by unfold TVp; (repeat' split) <;> omega), rfl⟩
          | exact ⟨gbF (by unfold TVp; (repeat' split) <;> omega), rfl⟩
      · skip
        refine w_aload_n (pc' := 20) (i := 0) (by rfl) (by rfl) dX4_isTrue_19 rfl ?_
        refine w_getS (pc' := 23) (q := (c + 4)) fg_X4_34 K0 sf_X4_12 R12 dX4_isTrue_20 rfl ?_
        refine w_iload_n (pc' := 24) (i := 1) (by rfl) (by rfl) dX4_isTrue_23 rfl ?_
        refine w_iald (pc' := 25) K4 (by omega) (by omega) dX4_isTrue_24 rfl ?_
        refine w_aload_n (pc' := 26) (i := 2) (by rfl) (by rfl) dX4_isTrue_25 rfl ?_
        refine w_alen (pc' := 27) kd_111 (by decide) (by decide) dX4_isTrue_26 rfl ?_
        refine w_icmp_lt (pc' := 30) (t := 32) dX4_isTrue_27 rfl rfl (fun c_27 => ?_) (fun c_27 => ?_)
        · skip
          refine w_aload_n (pc' := 33) (i := 2) (by rfl) (by rfl) dX4_isTrue_32 rfl ?_
          refine w_aload_n (pc' := 34) (i := 0) (by rfl) (by rfl) dX4_isTrue_33 rfl ?_
          refine w_getS (pc' := 37) (q := (c + 4)) fg_X4_34 K0 sf_X4_12 R12 dX4_isTrue_34 rfl ?_
          refine w_iload_n (pc' := 38) (i := 1) (by rfl) (by rfl) dX4_isTrue_37 rfl ?_
          refine w_iald (pc' := 39) K4 (by omega) (by omega) dX4_isTrue_38 rfl ?_
          refine w_iald (pc' := 40) kd_111 (by omega) (by omega) dX4_isTrue_39 rfl ?_
          refine w_istore_n (pc' := 41) (i := 3) (ls' := [gR c, gI i, gR 111, gI (σ 111 (σ (c + 4) i))]) (by rfl) (by decide) (by rfl) dX4_isTrue_40 rfl ?_
          refine w_aload_n (pc' := 42) (i := 0) (by rfl) (by rfl) dX4_isTrue_41 rfl ?_
          refine w_getS (pc' := 45) (q := (c + 5)) fg_X4_37 K0 sf_X4_13 R13 dX4_isTrue_42 rfl ?_
          refine w_iload_n (pc' := 46) (i := 1) (by rfl) (by rfl) dX4_isTrue_45 rfl ?_
          refine w_iald (pc' := 47) K5 (by omega) (by omega) dX4_isTrue_46 rfl ?_
          by_cases c_47 : (σ (c + 5) i) < 60 ∨ 62 < (σ (c + 5) i)
          · refine w_tableOut (pc' := 120) dX4_isTrue_47 c_47 rfl ?_
            refine w_iload_n (pc' := 121) (i := 3) (by rfl) (by rfl) dX4_isTrue_120 rfl ?_
            refine w_if_eq (pc' := 124) (t := 128) dX4_isTrue_121 rfl rfl (fun c_121 => ?_) (fun c_121 => ?_)
            · skip
              refine w_iconst (pc' := 129) (by decide) dX4_isTrue_128 rfl ?_
              refine w_zreturn rfl (.inl rfl) dX4_isTrue_129 ?_
              first
                | (exfalso; omega)
                | exact ⟨gbT (by unfold TVp; (repeat' split) <;> omega), rfl⟩
                | exact ⟨gbF (by unfold TVp; (repeat' split) <;> omega), rfl⟩
            · skip
              refine w_iconst (pc' := 125) (by decide) dX4_isTrue_124 rfl ?_
              refine w_goto (pc' := 129) dX4_isTrue_125 rfl ?_
              refine w_zreturn rfl (.inr rfl) dX4_isTrue_129 ?_
              first
                | (exfalso; omega)
                | exact ⟨gbT (by unfold TVp; (repeat' split) <;> omega), rfl⟩
                | exact ⟨gbF (by unfold TVp; (repeat' split) <;> omega), rfl⟩
          · rcases (show (σ (c + 5) i) = 60 ∨ (σ (c + 5) i) = 61 ∨ (σ (c + 5) i) = 62 by omega) with c_47 | c_47 | c_47
            · refine w_tableIn (pc' := 72) (off := 25) dX4_isTrue_47 (by omega) (by omega) (by rw [c_47]; rfl) rfl ?_
              refine w_iload_n (pc' := 73) (i := 3) (by rfl) (by rfl) dX4_isTrue_72 rfl ?_
              refine w_aload_n (pc' := 74) (i := 0) (by rfl) (by rfl) dX4_isTrue_73 rfl ?_
              refine w_getS (pc' := 77) (q := (c + 6)) fg_X4_40 K0 sf_X4_14 R14 dX4_isTrue_74 rfl ?_
              refine w_iload_n (pc' := 78) (i := 1) (by rfl) (by rfl) dX4_isTrue_77 rfl ?_
              refine w_iald (pc' := 79) K6 (by omega) (by omega) dX4_isTrue_78 rfl ?_
              refine w_icmp_ge (pc' := 82) (t := 86) dX4_isTrue_79 rfl rfl (fun c_79 => ?_) (fun c_79 => ?_)
              · skip
                refine w_iconst (pc' := 87) (by decide) dX4_isTrue_86 rfl ?_
                refine w_zreturn rfl (.inl rfl) dX4_isTrue_87 ?_
                first
                  | (exfalso; omega)
                  | exact ⟨gbT (by unfold TVp; (repeat' split) <;> omega), rfl⟩
                  | exact ⟨gbF (by unfold TVp; (repeat' split) <;> omega), rfl⟩
              · skip
                refine w_iconst (pc' := 83) (by decide) dX4_isTrue_82 rfl ?_
                refine w_goto (pc' := 87) dX4_isTrue_83 rfl ?_
                refine w_zreturn rfl (.inr rfl) dX4_isTrue_87 ?_
                first
                  | (exfalso; omega)
                  | exact ⟨gbT (by unfold TVp; (repeat' split) <;> omega), rfl⟩
                  | exact ⟨gbF (by unfold TVp; (repeat' split) <;> omega), rfl⟩
            · refine w_tableIn (pc' := 88) (off := 41) dX4_isTrue_47 (by omega) (by omega) (by rw [c_47]; rfl) rfl ?_
              refine w_iload_n (pc' := 89) (i := 3) (by rfl) (by rfl) dX4_isTrue_88 rfl ?_
              refine w_aload_n (pc' := 90) (i := 0) (by rfl) (by rfl) dX4_isTrue_89 rfl ?_
              refine w_getS (pc' := 93) (q := (c + 6)) fg_X4_40 K0 sf_X4_14 R14 dX4_isTrue_90 rfl ?_
              refine w_iload_n (pc' := 94) (i := 1) (by rfl) (by rfl) dX4_isTrue_93 rfl ?_
              refine w_iald (pc' := 95) K6 (by omega) (by omega) dX4_isTrue_94 rfl ?_
              refine w_icmp_ne (pc' := 98) (t := 102) dX4_isTrue_95 rfl rfl (fun c_95 => ?_) (fun c_95 => ?_)
              · skip
                refine w_iconst (pc' := 103) (by decide) dX4_isTrue_102 rfl ?_
                refine w_zreturn rfl (.inl rfl) dX4_isTrue_103 ?_
                first
                  | (exfalso; omega)
                  | exact ⟨gbT (by unfold TVp; (repeat' split) <;> omega), rfl⟩
                  | exact ⟨gbF (by unfold TVp; (repeat' split) <;> omega), rfl⟩
              · skip
                refine w_iconst (pc' := 99) (by decide) dX4_isTrue_98 rfl ?_
                refine w_goto (pc' := 103) dX4_isTrue_99 rfl ?_
                refine w_zreturn rfl (.inr rfl) dX4_isTrue_103 ?_
                first
                  | (exfalso; omega)
                  | exact ⟨gbT (by unfold TVp; (repeat' split) <;> omega), rfl⟩
                  | exact ⟨gbF (by unfold TVp; (repeat' split) <;> omega), rfl⟩
            · refine w_tableIn (pc' := 104) (off := 57) dX4_isTrue_47 (by omega) (by omega) (by rw [c_47]; rfl) rfl ?_
              refine w_iload_n (pc' := 105) (i := 3) (by rfl) (by rfl) dX4_isTrue_104 rfl ?_
              refine w_aload_n (pc' := 106) (i := 0) (by rfl) (by rfl) dX4_isTrue_105 rfl ?_
              refine w_getS (pc' := 109) (q := (c + 6)) fg_X4_40 K0 sf_X4_14 R14 dX4_isTrue_106 rfl ?_
              refine w_iload_n (pc' := 110) (i := 1) (by rfl) (by rfl) dX4_isTrue_109 rfl ?_
              refine w_iald (pc' := 111) K6 (by omega) (by omega) dX4_isTrue_110 rfl ?_
              refine w_icmp_le (pc' := 114) (t := 118) dX4_isTrue_111 rfl rfl (fun c_111 => ?_) (fun c_111 => ?_)
              · skip
                refine w_iconst (pc' := 119) (by decide) dX4_isTrue_118 rfl ?_
                refine w_zreturn rfl (.inl rfl) dX4_isTrue_119 ?_
                first
                  | (exfalso; omega)
                  | exact ⟨gbT (by unfold TVp; (repeat' split) <;> omega), rfl⟩
                  | exact ⟨gbF (by unfold TVp; (repeat' split) <;> omega), rfl⟩
              · skip
                refine w_iconst (pc' := 115) (by decide) dX4_isTrue_114 rfl ?_
                refine w_goto (pc' := 119) dX4_isTrue_115 rfl ?_
                refine w_zreturn rfl (.inr rfl) dX4_isTrue_119 ?_
                first
                  | (exfalso; omega)
                  | exact ⟨gbT (by unfold TVp; (repeat' split) <;> omega), rfl⟩
                  | exact ⟨gbF (by unfold TVp; (repeat' split) <;> omega), rfl⟩
        · skip
          refine w_iconst (pc' := 31) (by decide) dX4_isTrue_30 rfl ?_
          refine w_zreturn rfl (.inl rfl) dX4_isTrue_31 ?_
          first
            | (exfalso; omega)
            | exact ⟨gbT (by unfold TVp; (repeat' split) <;> omega), rfl⟩
            | exact ⟨gbF (by unfold TVp; (repeat' split) <;> omega), rfl⟩
set_option maxHeartbeats 4000000 in
theorem lq_holds {c : Nat} (hc : isLw c) (σ : gH) (r : Int) (hr : 0 ≤ r ∧ r < 10) (hw : σ (c + 2) r = σ (c + 3) r ∨ (0 ≤ σ (c + 2) r ∧ σ (c + 2) r < σ (c + 3) r ∧ σ (c + 3) r ≤ 120 ∧ wfP (σ (c + 3) r - σ (c + 2) r) (fun k => σ (c + 4) (σ (c + 2) r + k)) ∧ ∀ i, σ (c + 2) r ≤ i → i < σ (c + 3) r → 0 ≤ σ (c + 4) i ∧ σ (c + 4) i ≤ 16)) : Mt mX4_holds 1 [gR c, gI r, gR 111] σ (rE (gI (gb (HOc σ c r ≠ 0))) σ) := by
  refine Mt.walk (ls := [gR c, gI r, gR 111, gX 1, gX 1, gX 1]) pn_X4 rfl (fun _ _ h => by cases h.1) (Nat.le_of_ble_eq_true rfl) rfl ?_
  obtain ⟨K0, K1, K2, K3, K4, K5, K6, R9, R10, R11, R12, R13, R14⟩ := hc
  have hc0 : isLw c := ⟨K0, K1, K2, K3, K4, K5, K6, R9, R10, R11, R12, R13, R14⟩
  have hwf : σ (c + 2) r < σ (c + 3) r → wfP (σ (c + 3) r - σ (c + 2) r) (fun k => σ (c + 4) (σ (c + 2) r + k)) := fun h => by
    rcases hw with e | e
    · omega
    · exact e.2.2.2.1
  have hrg : ∀ i, σ (c + 2) r ≤ i → i < σ (c + 3) r → 0 ≤ σ (c + 4) i ∧ σ (c + 4) i ≤ 16 := fun i a b => by
    rcases hw with e | e
    · omega
    · exact e.2.2.2.2 i a b
  refine w_iload_n (pc' := 1) (i := 1) (by rfl) (by rfl) dX4_holds_0 rfl ?_
  refine w_if_lt (pc' := 4) (t := 29) dX4_holds_1 rfl rfl (fun c_1 => ?_) (fun c_1 => ?_)
  · skip
    refine w_iconst (pc' := 30) (by decide) dX4_holds_29 rfl ?_
    refine w_zreturn rfl (.inl rfl) dX4_holds_30 ?_
    exact ⟨gbF (by unfold HOc; rw [if_neg (by omega)]; omega), rfl⟩
  · skip
    refine w_iload_n (pc' := 5) (i := 1) (by rfl) (by rfl) dX4_holds_4 rfl ?_
    refine w_bipush (pc' := 7) (by decide) (by decide) dX4_holds_5 rfl ?_
    refine w_icmp_ge (pc' := 10) (t := 29) dX4_holds_7 rfl rfl (fun c_7 => ?_) (fun c_7 => ?_)
    · skip
      refine w_iconst (pc' := 30) (by decide) dX4_holds_29 rfl ?_
      refine w_zreturn rfl (.inl rfl) dX4_holds_30 ?_
      exact ⟨gbF (by unfold HOc; rw [if_neg (by omega)]; omega), rfl⟩
    · skip
      refine w_aload_n (pc' := 11) (i := 2) (by rfl) (by rfl) dX4_holds_10 rfl ?_
      refine w_ifnull (pc' := 14) dX4_holds_11 rfl ?_
      refine w_aload_n (pc' := 15) (i := 0) (by rfl) (by rfl) dX4_holds_14 rfl ?_
      refine w_getS (pc' := 18) (q := (c + 2)) fg_X4_28 K0 sf_X4_10 R10 dX4_holds_15 rfl ?_
      refine w_iload_n (pc' := 19) (i := 1) (by rfl) (by rfl) dX4_holds_18 rfl ?_
      refine w_iald (pc' := 20) K2 (by omega) (by omega) dX4_holds_19 rfl ?_
      refine w_aload_n (pc' := 21) (i := 0) (by rfl) (by rfl) dX4_holds_20 rfl ?_
      refine w_getS (pc' := 24) (q := (c + 3)) fg_X4_31 K0 sf_X4_11 R11 dX4_holds_21 rfl ?_
      refine w_iload_n (pc' := 25) (i := 1) (by rfl) (by rfl) dX4_holds_24 rfl ?_
      refine w_iald (pc' := 26) K3 (by omega) (by omega) dX4_holds_25 rfl ?_
      refine w_icmp_lt (pc' := 29) (t := 31) dX4_holds_26 rfl rfl (fun c_26 => ?_) (fun c_26 => ?_)
      · skip
        refine w_lconst (n := 0) (pc' := 32) (by decide) (by decide) dX4_holds_31 rfl ?_
        refine w_lstore_n (pc' := 33) (i := 3) (ls' := [gR c, gI r, gR 111, gJ 0, gX 1, gX 1]) (by rfl) (by decide) (by rfl) dX4_holds_32 rfl ?_
        refine w_aload_n (pc' := 34) (i := 0) (by rfl) (by rfl) dX4_holds_33 rfl ?_
        refine w_getS (pc' := 37) (q := (c + 2)) fg_X4_28 K0 sf_X4_10 R10 dX4_holds_34 rfl ?_
        refine w_iload_n (pc' := 38) (i := 1) (by rfl) (by rfl) dX4_holds_37 rfl ?_
        refine w_iald (pc' := 39) K2 (by omega) (by omega) dX4_holds_38 rfl ?_
        refine w_istore (pc' := 41) (ls' := [gR c, gI r, gR 111, gJ 0, gX 1, gI (σ (c + 2) r)]) (by decide) (by rfl) dX4_holds_39 rfl ?_
        replace hwf := hwf (by omega)
        have hl_41 : ∀ (mm : Nat) (i z : Int), (σ (c + 3) r - i).toNat = mm → (σ (c + 2) r ≤ i) → (i ≤ σ (c + 3) r) → (EN z (htM (fun k => σ (c + 4) (σ (c + 2) r + k)) (i - σ (c + 2) r).toNat) (stV (fun k => σ (c + 4) (σ (c + 2) r + k)) (fun k => gb (TVp (σ 111 (σ (c + 4) (σ (c + 2) r + k))) (σ (c + 5) (σ (c + 2) r + k)) (σ (c + 6) (σ (c + 2) r + k)))) (i - σ (c + 2) r).toNat)) → Wp mX4_holds 1 (rE (gI (gb (HOc σ c r ≠ 0))) σ) σ 41 [gR c, gI r, gR 111, gJ z, gX 1, gI i] [] := by
          intro m_41
          induction m_41 using Nat.strongRecOn with
          | _ m_41 ih_41 =>
            intro i z hmeas_41 h0 h1 hz
            have ei : σ (c + 2) r + (i - σ (c + 2) r) = i := by omega
            have s := fun (hlt : i < σ (c + 3) r) => EN_s (z := z) (mk := (fun k => σ (c + 4) (σ (c + 2) r + k))) (tv := (fun k => gb (TVp (σ 111 (σ (c + 4) (σ (c + 2) r + k))) (σ (c + 5) (σ (c + 2) r + k)) (σ (c + 6) (σ (c + 2) r + k))))) hwf (k := i - σ (c + 2) r) (by omega) (by omega) hz (gb_01 _)
            simp only [ei] at s
            refine w_iload (pc' := 43) (by rfl) dX4_holds_41 rfl ?_
            refine w_aload_n (pc' := 44) (i := 0) (by rfl) (by rfl) dX4_holds_43 rfl ?_
            refine w_getS (pc' := 47) (q := (c + 3)) fg_X4_31 K0 sf_X4_11 R11 dX4_holds_44 rfl ?_
            refine w_iload_n (pc' := 48) (i := 1) (by rfl) (by rfl) dX4_holds_47 rfl ?_
            refine w_iald (pc' := 49) K3 (by omega) (by omega) dX4_holds_48 rfl ?_
            refine w_icmp_ge (pc' := 52) (t := 168) dX4_holds_49 rfl rfl (fun c_49 => ?_) (fun c_49 => ?_)
            · skip
              refine w_lload_n (pc' := 169) (i := 3) (by rfl) (by rfl) dX4_holds_168 rfl ?_
              refine w_lconst (n := 1) (pc' := 170) (by decide) (by decide) dX4_holds_169 rfl ?_
              refine w_land (pc' := 171) dX4_holds_170 rfl ?_
              refine w_lconst (n := 0) (pc' := 172) (by decide) (by decide) dX4_holds_171 rfl ?_
              refine w_lcmp (pc' := 173) dX4_holds_172 rfl ?_
              refine w_if_eq (pc' := 176) (t := 180) dX4_holds_173 rfl rfl (fun c_173 => ?_) (fun c_173 => ?_)
              · skip
                refine w_iconst (pc' := 181) (by decide) dX4_holds_180 rfl ?_
                refine w_zreturn rfl (.inl rfl) dX4_holds_181 ?_
                have ee : i = σ (c + 3) r := by omega
                subst ee
                rw [hwf.2.1] at hz
                have b0 := hz 0 (by omega) (by omega)
                rw [show (1 : Int) - 1 - 0 = 0 by omega] at b0
                have g0 : gCmp (gB64 (fun a b => a &&& b) z 1) 0 = 0 ↔ gB64 (fun a b => a &&& b) z 1 = 0 := gCmp_0
                have eH : HOc σ c r = stV (fun k => σ (c + 4) (σ (c + 2) r + k)) (fun k => gb (TVp (σ 111 (σ (c + 4) (σ (c + 2) r + k))) (σ (c + 5) (σ (c + 2) r + k)) (σ (c + 6) (σ (c + 2) r + k)))) (σ (c + 3) r - σ (c + 2) r).toNat 0 := if_pos (by omega)
                first
                  | exact ⟨gbT (by rw [eH]; exact b0.mp (and1_iff.mp (fun x => c_173 (g0.mpr x)))), rfl⟩
                  | exact ⟨gbF (by rw [eH]; exact fun x => and1_iff.mpr (b0.mpr x) (g0.mp c_173)), rfl⟩
              · skip
                refine w_iconst (pc' := 177) (by decide) dX4_holds_176 rfl ?_
                refine w_goto (pc' := 181) dX4_holds_177 rfl ?_
                refine w_zreturn rfl (.inr rfl) dX4_holds_181 ?_
                have ee : i = σ (c + 3) r := by omega
                subst ee
                rw [hwf.2.1] at hz
                have b0 := hz 0 (by omega) (by omega)
                rw [show (1 : Int) - 1 - 0 = 0 by omega] at b0
                have g0 : gCmp (gB64 (fun a b => a &&& b) z 1) 0 = 0 ↔ gB64 (fun a b => a &&& b) z 1 = 0 := gCmp_0
                have eH : HOc σ c r = stV (fun k => σ (c + 4) (σ (c + 2) r + k)) (fun k => gb (TVp (σ 111 (σ (c + 4) (σ (c + 2) r + k))) (σ (c + 5) (σ (c + 2) r + k)) (σ (c + 6) (σ (c + 2) r + k)))) (σ (c + 3) r - σ (c + 2) r).toNat 0 := if_pos (by omega)
                first
                  | exact ⟨gbT (by rw [eH]; exact b0.mp (and1_iff.mp (fun x => c_173 (g0.mpr x)))), rfl⟩
                  | exact ⟨gbF (by rw [eH]; exact fun x => and1_iff.mpr (b0.mpr x) (g0.mp c_173)), rfl⟩
            · skip
              refine w_iload (pc' := 54) (by rfl) dX4_holds_52 rfl ?_
              refine w_if_lt (pc' := 57) (t := 168) dX4_holds_54 rfl rfl (fun c_54 => ?_) (fun c_54 => ?_)
              · skip
                refine w_lload_n (pc' := 169) (i := 3) (by rfl) (by rfl) dX4_holds_168 rfl ?_
                refine w_lconst (n := 1) (pc' := 170) (by decide) (by decide) dX4_holds_169 rfl ?_
                refine w_land (pc' := 171) dX4_holds_170 rfl ?_
                refine w_lconst (n := 0) (pc' := 172) (by decide) (by decide) dX4_holds_171 rfl ?_
                refine w_lcmp (pc' := 173) dX4_holds_172 rfl ?_
                refine w_if_eq (pc' := 176) (t := 180) dX4_holds_173 rfl rfl (fun c_173 => ?_) (fun c_173 => ?_)
                · skip
                  refine w_iconst (pc' := 181) (by decide) dX4_holds_180 rfl ?_
                  refine w_zreturn rfl (.inl rfl) dX4_holds_181 ?_
                  have ee : i = σ (c + 3) r := by omega
                  subst ee
                  rw [hwf.2.1] at hz
                  have b0 := hz 0 (by omega) (by omega)
                  rw [show (1 : Int) - 1 - 0 = 0 by omega] at b0
                  have g0 : gCmp (gB64 (fun a b => a &&& b) z 1) 0 = 0 ↔ gB64 (fun a b => a &&& b) z 1 = 0 := gCmp_0
                  have eH : HOc σ c r = stV (fun k => σ (c + 4) (σ (c + 2) r + k)) (fun k => gb (TVp (σ 111 (σ (c + 4) (σ (c + 2) r + k))) (σ (c + 5) (σ (c + 2) r + k)) (σ (c + 6) (σ (c + 2) r + k)))) (σ (c + 3) r - σ (c + 2) r).toNat 0 := if_pos (by omega)
                  first
                    | exact ⟨gbT (by rw [eH]; exact b0.mp (and1_iff.mp (fun x => c_173 (g0.mpr x)))), rfl⟩
                    | exact ⟨gbF (by rw [eH]; exact fun x => and1_iff.mpr (b0.mpr x) (g0.mp c_173)), rfl⟩
                · skip
                  refine w_iconst (pc' := 177) (by decide) dX4_holds_176 rfl ?_
                  refine w_goto (pc' := 181) dX4_holds_177 rfl ?_
                  refine w_zreturn rfl (.inr rfl) dX4_holds_181 ?_
                  have ee : i = σ (c + 3) r := by omega
                  subst ee
                  rw [hwf.2.1] at hz
                  have b0 := hz 0 (by omega) (by omega)
                  rw [show (1 : Int) - 1 - 0 = 0 by omega] at b0
                  have g0 : gCmp (gB64 (fun a b => a &&& b) z 1) 0 = 0 ↔ gB64 (fun a b => a &&& b) z 1 = 0 := gCmp_0
                  have eH : HOc σ c r = stV (fun k => σ (c + 4) (σ (c + 2) r + k)) (fun k => gb (TVp (σ 111 (σ (c + 4) (σ (c + 2) r + k))) (σ (c + 5) (σ (c + 2) r + k)) (σ (c + 6) (σ (c + 2) r + k)))) (σ (c + 3) r - σ (c + 2) r).toNat 0 := if_pos (by omega)
                  first
                    | exact ⟨gbT (by rw [eH]; exact b0.mp (and1_iff.mp (fun x => c_173 (g0.mpr x)))), rfl⟩
                    | exact ⟨gbF (by rw [eH]; exact fun x => and1_iff.mpr (b0.mpr x) (g0.mp c_173)), rfl⟩
              · skip
                refine w_iload (pc' := 59) (by rfl) dX4_holds_57 rfl ?_
                refine w_bipush (pc' := 61) (by decide) (by decide) dX4_holds_59 rfl ?_
                refine w_icmp_ge (pc' := 64) (t := 168) dX4_holds_61 rfl rfl (fun c_61 => ?_) (fun c_61 => ?_)
                · skip
                  refine w_lload_n (pc' := 169) (i := 3) (by rfl) (by rfl) dX4_holds_168 rfl ?_
                  refine w_lconst (n := 1) (pc' := 170) (by decide) (by decide) dX4_holds_169 rfl ?_
                  refine w_land (pc' := 171) dX4_holds_170 rfl ?_
                  refine w_lconst (n := 0) (pc' := 172) (by decide) (by decide) dX4_holds_171 rfl ?_
                  refine w_lcmp (pc' := 173) dX4_holds_172 rfl ?_
                  refine w_if_eq (pc' := 176) (t := 180) dX4_holds_173 rfl rfl (fun c_173 => ?_) (fun c_173 => ?_)
                  · skip
                    refine w_iconst (pc' := 181) (by decide) dX4_holds_180 rfl ?_
                    refine w_zreturn rfl (.inl rfl) dX4_holds_181 ?_
                    have ee : i = σ (c + 3) r := by omega
                    subst ee
                    rw [hwf.2.1] at hz
                    have b0 := hz 0 (by omega) (by omega)
                    rw [show (1 : Int) - 1 - 0 = 0 by omega] at b0
                    have g0 : gCmp (gB64 (fun a b => a &&& b) z 1) 0 = 0 ↔ gB64 (fun a b => a &&& b) z 1 = 0 := gCmp_0
                    have eH : HOc σ c r = stV (fun k => σ (c + 4) (σ (c + 2) r + k)) (fun k => gb (TVp (σ 111 (σ (c + 4) (σ (c + 2) r + k))) (σ (c + 5) (σ (c + 2) r + k)) (σ (c + 6) (σ (c + 2) r + k)))) (σ (c + 3) r - σ (c + 2) r).toNat 0 := if_pos (by omega)
                    first
                      | exact ⟨gbT (by rw [eH]; exact b0.mp (and1_iff.mp (fun x => c_173 (g0.mpr x)))), rfl⟩
                      | exact ⟨gbF (by rw [eH]; exact fun x => and1_iff.mpr (b0.mpr x) (g0.mp c_173)), rfl⟩
                  · skip
                    refine w_iconst (pc' := 177) (by decide) dX4_holds_176 rfl ?_
                    refine w_goto (pc' := 181) dX4_holds_177 rfl ?_
                    refine w_zreturn rfl (.inr rfl) dX4_holds_181 ?_
                    have ee : i = σ (c + 3) r := by omega
                    subst ee
                    rw [hwf.2.1] at hz
                    have b0 := hz 0 (by omega) (by omega)
                    rw [show (1 : Int) - 1 - 0 = 0 by omega] at b0
                    have g0 : gCmp (gB64 (fun a b => a &&& b) z 1) 0 = 0 ↔ gB64 (fun a b => a &&& b) z 1 = 0 := gCmp_0
                    have eH : HOc σ c r = stV (fun k => σ (c + 4) (σ (c + 2) r + k)) (fun k => gb (TVp (σ 111 (σ (c + 4) (σ (c + 2) r + k))) (σ (c + 5) (σ (c + 2) r + k)) (σ (c + 6) (σ (c + 2) r + k)))) (σ (c + 3) r - σ (c + 2) r).toNat 0 := if_pos (by omega)
                    first
                      | exact ⟨gbT (by rw [eH]; exact b0.mp (and1_iff.mp (fun x => c_173 (g0.mpr x)))), rfl⟩
                      | exact ⟨gbF (by rw [eH]; exact fun x => and1_iff.mpr (b0.mpr x) (g0.mp c_173)), rfl⟩
                · skip
                  refine w_aload_n (pc' := 65) (i := 0) (by rfl) (by rfl) dX4_holds_64 rfl ?_
                  refine w_getS (pc' := 68) (q := (c + 4)) fg_X4_34 K0 sf_X4_12 R12 dX4_holds_65 rfl ?_
                  refine w_iload (pc' := 70) (by rfl) dX4_holds_68 rfl ?_
                  refine w_iald (pc' := 71) K4 (by omega) (by omega) dX4_holds_70 rfl ?_
                  refine w_bipush (pc' := 73) (by decide) (by decide) dX4_holds_71 rfl ?_
                  refine w_icmp_ne (pc' := 76) (t := 83) dX4_holds_73 rfl rfl (fun c_73 => ?_) (fun c_73 => ?_)
                  · skip
                    refine w_aload_n (pc' := 84) (i := 0) (by rfl) (by rfl) dX4_holds_83 rfl ?_
                    refine w_getS (pc' := 87) (q := (c + 4)) fg_X4_34 K0 sf_X4_12 R12 dX4_holds_84 rfl ?_
                    refine w_iload (pc' := 89) (by rfl) dX4_holds_87 rfl ?_
                    refine w_iald (pc' := 90) K4 (by omega) (by omega) dX4_holds_89 rfl ?_
                    refine w_bipush (pc' := 92) (by decide) (by decide) dX4_holds_90 rfl ?_
                    refine w_icmp_ne (pc' := 95) (t := 112) dX4_holds_92 rfl rfl (fun c_92 => ?_) (fun c_92 => ?_)
                    · skip
                      refine w_aload_n (pc' := 113) (i := 0) (by rfl) (by rfl) dX4_holds_112 rfl ?_
                      refine w_getS (pc' := 116) (q := (c + 4)) fg_X4_34 K0 sf_X4_12 R12 dX4_holds_113 rfl ?_
                      refine w_iload (pc' := 118) (by rfl) dX4_holds_116 rfl ?_
                      refine w_iald (pc' := 119) K4 (by omega) (by omega) dX4_holds_118 rfl ?_
                      refine w_bipush (pc' := 121) (by decide) (by decide) dX4_holds_119 rfl ?_
                      refine w_icmp_ne (pc' := 124) (t := 141) dX4_holds_121 rfl rfl (fun c_121 => ?_) (fun c_121 => ?_)
                      · skip
                        refine w_lload_n (pc' := 142) (i := 3) (by rfl) (by rfl) dX4_holds_141 rfl ?_
                        refine w_iconst (pc' := 143) (by decide) dX4_holds_142 rfl ?_
                        refine w_lshl (pc' := 144) dX4_holds_143 rfl ?_
                        refine w_aload_n (pc' := 145) (i := 0) (by rfl) (by rfl) dX4_holds_144 rfl ?_
                        refine w_iload (pc' := 147) (by rfl) dX4_holds_145 rfl ?_
                        refine w_aload_n (pc' := 148) (i := 2) (by rfl) (by rfl) dX4_holds_147 rfl ?_
                        have hj_159 : Wp mX4_holds 1 (rE (gI (gb (HOc σ c r ≠ 0))) σ) σ 159 [gR c, gI r, gR 111, gJ z, gX 1, gI i] [gI (gb (TVp (σ 111 (σ (c + 4) i)) (σ (c + 5) i) (σ (c + 6) i))), gJ (gS64 (fun a b => a <<< b) z 1)] := by
                          refine w_i2l (pc' := 160) dX4_holds_159 rfl ?_
                          refine w_lor (pc' := 161) dX4_holds_160 rfl ?_
                          refine w_lstore_n (pc' := 162) (i := 3) (ls' := [gR c, gI r, gR 111, gJ (gB64 (fun a b => a ||| b) (gS64 (fun a b => a <<< b) z 1) (gb (TVp (σ 111 (σ (c + 4) i)) (σ (c + 5) i) (σ (c + 6) i)))), gX 1, gI i]) (by rfl) (by decide) (by rfl) dX4_holds_161 rfl ?_
                          refine v_iinc (pc' := 165) (x := i) (ls' := [gR c, gI r, gR 111, gJ (gB64 (fun a b => a ||| b) (gS64 (fun a b => a <<< b) z 1) (gb (TVp (σ 111 (σ (c + 4) i)) (σ (c + 5) i) (σ (c + 6) i)))), gX 1, gI (i + 1)]) (by omega) (by decide) (by rfl) (by rfl) dX4_holds_162 rfl ?_
                          refine w_goto (pc' := 41) dX4_holds_165 rfl ?_
                          exact ih_41 _ (by omega) (i + 1) (gB64 (fun a b => a ||| b) (gS64 (fun a b => a <<< b) z 1) (gb (TVp (σ 111 (σ (c + 4) i)) (σ (c + 5) i) (σ (c + 6) i)))) rfl (by omega) (by omega) (by rw [show i + 1 - σ (c + 2) r = i - σ (c + 2) r + 1 by omega]; first | exact (s (by omega)).1 (by omega) | exact (s (by omega)).2.1 (by omega) | exact (s (by omega)).2.2.1 (by omega) | exact (s (by omega)).2.2.2 (by omega) (by omega) (by omega))
                        refine v_callVE (pc' := 151) (st' := [gI (gb (TVp (σ 111 (σ (c + 4) i)) (σ (c + 5) i) (σ (c + 6) i))), gJ (gS64 (fun a b => a <<< b) z 1)]) (d' := 0) (av := [gI i, gR 111]) mi_mX4_isTrue lk_X4_67 rfl ci_X4 K0 rfl (Nat.le_of_ble_eq_true rfl) (Nat.le_of_ble_eq_true rfl) dX4_holds_148 rfl rfl (l_isTrue hc0 σ i ⟨by omega, by omega⟩ ⟨by have := hrg i (by omega) (by omega); omega, by have := hrg i (by omega) (by omega); omega⟩) ?_
                        refine v_if_eqB (pc' := 154) (t := 158) dX4_holds_151 rfl rfl (fun c_151 => ?_) (fun c_151 => ?_)
                        · skip
                          refine w_iconst (pc' := 159) (by decide) dX4_holds_158 rfl ?_
                          exact Wp.stI (by first | (exfalso; omega) | exact (gb_f (P := TVp (σ 111 (σ (c + 4) i)) (σ (c + 5) i) (σ (c + 6) i)) (by omega)).symm) hj_159
                        · skip
                          refine w_iconst (pc' := 155) (by decide) dX4_holds_154 rfl ?_
                          refine w_goto (pc' := 159) dX4_holds_155 rfl ?_
                          exact Wp.stI (by first | (exfalso; omega) | exact (gb_t (P := TVp (σ 111 (σ (c + 4) i)) (σ (c + 5) i) (σ (c + 6) i)) (by omega)).symm) hj_159
                      · skip
                        refine w_lload_n (pc' := 125) (i := 3) (by rfl) (by rfl) dX4_holds_124 rfl ?_
                        refine w_iconst (pc' := 126) (by decide) dX4_holds_125 rfl ?_
                        refine w_lushr (pc' := 127) dX4_holds_126 rfl ?_
                        refine w_iconst (pc' := 128) (by decide) dX4_holds_127 rfl ?_
                        refine w_lshl (pc' := 129) dX4_holds_128 rfl ?_
                        refine w_lload_n (pc' := 130) (i := 3) (by rfl) (by rfl) dX4_holds_129 rfl ?_
                        refine w_lload_n (pc' := 131) (i := 3) (by rfl) (by rfl) dX4_holds_130 rfl ?_
                        refine w_iconst (pc' := 132) (by decide) dX4_holds_131 rfl ?_
                        refine w_lushr (pc' := 133) dX4_holds_132 rfl ?_
                        refine w_lor (pc' := 134) dX4_holds_133 rfl ?_
                        refine w_lconst (n := 1) (pc' := 135) (by decide) (by decide) dX4_holds_134 rfl ?_
                        refine w_land (pc' := 136) dX4_holds_135 rfl ?_
                        refine w_lor (pc' := 137) dX4_holds_136 rfl ?_
                        refine w_lstore_n (pc' := 138) (i := 3) (ls' := [gR c, gI r, gR 111, gJ (gB64 (fun a b => a ||| b) (gS64 (fun a b => a <<< b) (gS64U z 2) 1) (gB64 (fun a b => a &&& b) (gB64 (fun a b => a ||| b) z (gS64U z 1)) 1)), gX 1, gI i]) (by rfl) (by decide) (by rfl) dX4_holds_137 rfl ?_
                        refine w_goto (pc' := 162) dX4_holds_138 rfl ?_
                        refine v_iinc (pc' := 165) (x := i) (ls' := [gR c, gI r, gR 111, gJ (gB64 (fun a b => a ||| b) (gS64 (fun a b => a <<< b) (gS64U z 2) 1) (gB64 (fun a b => a &&& b) (gB64 (fun a b => a ||| b) z (gS64U z 1)) 1)), gX 1, gI (i + 1)]) (by omega) (by decide) (by rfl) (by rfl) dX4_holds_162 rfl ?_
                        refine w_goto (pc' := 41) dX4_holds_165 rfl ?_
                        exact ih_41 _ (by omega) (i + 1) (gB64 (fun a b => a ||| b) (gS64 (fun a b => a <<< b) (gS64U z 2) 1) (gB64 (fun a b => a &&& b) (gB64 (fun a b => a ||| b) z (gS64U z 1)) 1)) rfl (by omega) (by omega) (by rw [show i + 1 - σ (c + 2) r = i - σ (c + 2) r + 1 by omega]; first | exact (s (by omega)).1 (by omega) | exact (s (by omega)).2.1 (by omega) | exact (s (by omega)).2.2.1 (by omega) | exact (s (by omega)).2.2.2 (by omega) (by omega) (by omega))
                    · skip
                      refine w_lload_n (pc' := 96) (i := 3) (by rfl) (by rfl) dX4_holds_95 rfl ?_
                      refine w_iconst (pc' := 97) (by decide) dX4_holds_96 rfl ?_
                      refine w_lushr (pc' := 98) dX4_holds_97 rfl ?_
                      refine w_iconst (pc' := 99) (by decide) dX4_holds_98 rfl ?_
                      refine w_lshl (pc' := 100) dX4_holds_99 rfl ?_
                      refine w_lload_n (pc' := 101) (i := 3) (by rfl) (by rfl) dX4_holds_100 rfl ?_
                      refine w_lload_n (pc' := 102) (i := 3) (by rfl) (by rfl) dX4_holds_101 rfl ?_
                      refine w_iconst (pc' := 103) (by decide) dX4_holds_102 rfl ?_
                      refine w_lushr (pc' := 104) dX4_holds_103 rfl ?_
                      refine w_land (pc' := 105) dX4_holds_104 rfl ?_
                      refine w_lconst (n := 1) (pc' := 106) (by decide) (by decide) dX4_holds_105 rfl ?_
                      refine w_land (pc' := 107) dX4_holds_106 rfl ?_
                      refine w_lor (pc' := 108) dX4_holds_107 rfl ?_
                      refine w_lstore_n (pc' := 109) (i := 3) (ls' := [gR c, gI r, gR 111, gJ (gB64 (fun a b => a ||| b) (gS64 (fun a b => a <<< b) (gS64U z 2) 1) (gB64 (fun a b => a &&& b) (gB64 (fun a b => a &&& b) z (gS64U z 1)) 1)), gX 1, gI i]) (by rfl) (by decide) (by rfl) dX4_holds_108 rfl ?_
                      refine w_goto (pc' := 162) dX4_holds_109 rfl ?_
                      refine v_iinc (pc' := 165) (x := i) (ls' := [gR c, gI r, gR 111, gJ (gB64 (fun a b => a ||| b) (gS64 (fun a b => a <<< b) (gS64U z 2) 1) (gB64 (fun a b => a &&& b) (gB64 (fun a b => a &&& b) z (gS64U z 1)) 1)), gX 1, gI (i + 1)]) (by omega) (by decide) (by rfl) (by rfl) dX4_holds_162 rfl ?_
                      refine w_goto (pc' := 41) dX4_holds_165 rfl ?_
                      exact ih_41 _ (by omega) (i + 1) (gB64 (fun a b => a ||| b) (gS64 (fun a b => a <<< b) (gS64U z 2) 1) (gB64 (fun a b => a &&& b) (gB64 (fun a b => a &&& b) z (gS64U z 1)) 1)) rfl (by omega) (by omega) (by rw [show i + 1 - σ (c + 2) r = i - σ (c + 2) r + 1 by omega]; first | exact (s (by omega)).1 (by omega) | exact (s (by omega)).2.1 (by omega) | exact (s (by omega)).2.2.1 (by omega) | exact (s (by omega)).2.2.2 (by omega) (by omega) (by omega))
                  · skip
                    refine w_lload_n (pc' := 77) (i := 3) (by rfl) (by rfl) dX4_holds_76 rfl ?_
                    refine w_lconst (n := 1) (pc' := 78) (by decide) (by decide) dX4_holds_77 rfl ?_
                    refine w_lxor (pc' := 79) dX4_holds_78 rfl ?_
                    refine w_lstore_n (pc' := 80) (i := 3) (ls' := [gR c, gI r, gR 111, gJ (gB64 (fun a b => a ^^^ b) z 1), gX 1, gI i]) (by rfl) (by decide) (by rfl) dX4_holds_79 rfl ?_
                    refine w_goto (pc' := 162) dX4_holds_80 rfl ?_
                    refine v_iinc (pc' := 165) (x := i) (ls' := [gR c, gI r, gR 111, gJ (gB64 (fun a b => a ^^^ b) z 1), gX 1, gI (i + 1)]) (by omega) (by decide) (by rfl) (by rfl) dX4_holds_162 rfl ?_
                    refine w_goto (pc' := 41) dX4_holds_165 rfl ?_
                    exact ih_41 _ (by omega) (i + 1) (gB64 (fun a b => a ^^^ b) z 1) rfl (by omega) (by omega) (by rw [show i + 1 - σ (c + 2) r = i - σ (c + 2) r + 1 by omega]; first | exact (s (by omega)).1 (by omega) | exact (s (by omega)).2.1 (by omega) | exact (s (by omega)).2.2.1 (by omega) | exact (s (by omega)).2.2.2 (by omega) (by omega) (by omega))
        exact hl_41 _ (σ (c + 2) r) 0 rfl (by omega) (by omega) (by rw [Int.sub_self]; exact EN.start)
      · skip
        refine w_iconst (pc' := 30) (by decide) dX4_holds_29 rfl ?_
        refine w_zreturn rfl (.inl rfl) dX4_holds_30 ?_
        exact ⟨gbF (by unfold HOc; rw [if_neg (by omega)]; omega), rfl⟩
theorem q_isMeasured (σ : gH) (p : Int) : Mt mX12_isMeasured 0 [gI p] σ (rE (gI (gb (isMeM p))) σ) := by
  refine Mt.walk (ls := [gI p]) pn_X12 rfl (fun _ _ h => by cases h.1) (Nat.le_of_ble_eq_true rfl) rfl ?_
  refine w_iload_n (pc' := 1) (i := 0) (by rfl) (by rfl) dX12_isMeasured_0 rfl ?_
  refine w_bipush (pc' := 3) (by decide) (by decide) dX12_isMeasured_1 rfl ?_
  refine w_icmp_eq (pc' := 6) (t := 36) dX12_isMeasured_3 rfl rfl (fun c_3 => ?_) (fun c_3 => ?_)
  · skip
    refine w_iconst (pc' := 37) (by decide) dX12_isMeasured_36 rfl ?_
    refine w_goto (pc' := 41) dX12_isMeasured_37 rfl ?_
    refine w_zreturn rfl (.inr rfl) dX12_isMeasured_41 ?_
    first | (exfalso; omega) | exact ⟨gbT (by omega), rfl⟩ | exact ⟨gbF (by omega), rfl⟩
  · skip
    refine w_iload_n (pc' := 7) (i := 0) (by rfl) (by rfl) dX12_isMeasured_6 rfl ?_
    refine w_bipush (pc' := 9) (by decide) (by decide) dX12_isMeasured_7 rfl ?_
    refine w_icmp_eq (pc' := 12) (t := 36) dX12_isMeasured_9 rfl rfl (fun c_9 => ?_) (fun c_9 => ?_)
    · skip
      refine w_iconst (pc' := 37) (by decide) dX12_isMeasured_36 rfl ?_
      refine w_goto (pc' := 41) dX12_isMeasured_37 rfl ?_
      refine w_zreturn rfl (.inr rfl) dX12_isMeasured_41 ?_
      first | (exfalso; omega) | exact ⟨gbT (by omega), rfl⟩ | exact ⟨gbF (by omega), rfl⟩
    · skip
      refine w_iload_n (pc' := 13) (i := 0) (by rfl) (by rfl) dX12_isMeasured_12 rfl ?_
      refine w_bipush (pc' := 15) (by decide) (by decide) dX12_isMeasured_13 rfl ?_
      refine w_icmp_eq (pc' := 18) (t := 36) dX12_isMeasured_15 rfl rfl (fun c_15 => ?_) (fun c_15 => ?_)
      · skip
        refine w_iconst (pc' := 37) (by decide) dX12_isMeasured_36 rfl ?_
        refine w_goto (pc' := 41) dX12_isMeasured_37 rfl ?_
        refine w_zreturn rfl (.inr rfl) dX12_isMeasured_41 ?_
        first | (exfalso; omega) | exact ⟨gbT (by omega), rfl⟩ | exact ⟨gbF (by omega), rfl⟩
      · skip
        refine w_iload_n (pc' := 19) (i := 0) (by rfl) (by rfl) dX12_isMeasured_18 rfl ?_
        refine w_bipush (pc' := 21) (by decide) (by decide) dX12_isMeasured_19 rfl ?_
        refine w_icmp_eq (pc' := 24) (t := 36) dX12_isMeasured_21 rfl rfl (fun c_21 => ?_) (fun c_21 => ?_)
        · skip
          refine w_iconst (pc' := 37) (by decide) dX12_isMeasured_36 rfl ?_
          refine w_goto (pc' := 41) dX12_isMeasured_37 rfl ?_
          refine w_zreturn rfl (.inr rfl) dX12_isMeasured_41 ?_
          first | (exfalso; omega) | exact ⟨gbT (by omega), rfl⟩ | exact ⟨gbF (by omega), rfl⟩
        · skip
          refine w_iload_n (pc' := 25) (i := 0) (by rfl) (by rfl) dX12_isMeasured_24 rfl ?_
          refine w_bipush (pc' := 27) (by decide) (by decide) dX12_isMeasured_25 rfl ?_
          refine w_icmp_eq (pc' := 30) (t := 36) dX12_isMeasured_27 rfl rfl (fun c_27 => ?_) (fun c_27 => ?_)
          · skip
            refine w_iconst (pc' := 37) (by decide) dX12_isMeasured_36 rfl ?_
            refine w_goto (pc' := 41) dX12_isMeasured_37 rfl ?_
            refine w_zreturn rfl (.inr rfl) dX12_isMeasured_41 ?_
            first | (exfalso; omega) | exact ⟨gbT (by omega), rfl⟩ | exact ⟨gbF (by omega), rfl⟩
          · skip
            refine w_iload_n (pc' := 31) (i := 0) (by rfl) (by rfl) dX12_isMeasured_30 rfl ?_
            refine w_bipush (pc' := 33) (by decide) (by decide) dX12_isMeasured_31 rfl ?_
            refine w_icmp_ne (pc' := 36) (t := 40) dX12_isMeasured_33 rfl rfl (fun c_33 => ?_) (fun c_33 => ?_)
            · skip
              refine w_iconst (pc' := 41) (by decide) dX12_isMeasured_40 rfl ?_
              refine w_zreturn rfl (.inl rfl) dX12_isMeasured_41 ?_
              first | (exfalso; omega) | exact ⟨gbT (by omega), rfl⟩ | exact ⟨gbF (by omega), rfl⟩
            · skip
              refine w_iconst (pc' := 37) (by decide) dX12_isMeasured_36 rfl ?_
              refine w_goto (pc' := 41) dX12_isMeasured_37 rfl ?_
              refine w_zreturn rfl (.inr rfl) dX12_isMeasured_41 ?_
              first | (exfalso; omega) | exact ⟨gbT (by omega), rfl⟩ | exact ⟨gbF (by omega), rfl⟩
theorem q_holdsPiece (σ : gH) (k : Int) (hk : 0 ≤ k ∧ k < 1400) (hp : 0 ≤ σ 180 k ∧ σ 180 k ≤ 13) : Mt mX12_holdsPiece 1 [gR 133, gI k] σ (rE (gI (gb (TVm (σ 187 (σ 180 k)) (σ 180 k) (σ 181 k) (σ 182 k)))) σ) := by
  refine Mt.walk (ls := [gR 133, gI k, gX 1]) pn_X12 rfl (fun _ _ h => by cases h.1) (Nat.le_of_ble_eq_true rfl) rfl ?_
  refine w_aload_n (pc' := 1) (i := 0) (by rfl) (by rfl) dX12_holdsPiece_0 rfl ?_
  refine w_getS (pc' := 4) (q := 187) fg_X12_181 kd_133 sf_X12_85 gr_133_85 dX12_holdsPiece_1 rfl ?_
  refine w_aload_n (pc' := 5) (i := 0) (by rfl) (by rfl) dX12_holdsPiece_4 rfl ?_
  refine w_getS (pc' := 8) (q := 180) fg_X12_160 kd_133 sf_X12_71 gr_133_71 dX12_holdsPiece_5 rfl ?_
  refine w_iload_n (pc' := 9) (i := 1) (by rfl) (by rfl) dX12_holdsPiece_8 rfl ?_
  refine w_iald (pc' := 10) kd_180 (by omega) (by omega) dX12_holdsPiece_9 rfl ?_
  refine w_iald (pc' := 11) kd_187 (by omega) (by omega) dX12_holdsPiece_10 rfl ?_
  refine w_istore_n (pc' := 12) (i := 2) (ls' := [gR 133, gI k, gI (σ 187 (σ 180 k))]) (by rfl) (by decide) (by rfl) dX12_holdsPiece_11 rfl ?_
  refine w_aload_n (pc' := 13) (i := 0) (by rfl) (by rfl) dX12_holdsPiece_12 rfl ?_
  refine w_getS (pc' := 16) (q := 180) fg_X12_160 kd_133 sf_X12_71 gr_133_71 dX12_holdsPiece_13 rfl ?_
  refine w_iload_n (pc' := 17) (i := 1) (by rfl) (by rfl) dX12_holdsPiece_16 rfl ?_
  refine w_iald (pc' := 18) kd_180 (by omega) (by omega) dX12_holdsPiece_17 rfl ?_
  refine v_callSE (pc' := 21) (st' := [gI (gb (isMeM (σ 180 k)))]) (d' := 0) (av := [gI (σ 180 k)]) ms_mX12_isMeasured st_mX12_isMeasured lk_X12_460 rfl rfl (Nat.le_of_ble_eq_true rfl) (Nat.le_of_ble_eq_true rfl) dX12_holdsPiece_18 rfl rfl (q_isMeasured σ (σ 180 k)) ?_
  refine v_if_neB (pc' := 24) (t := 34) dX12_holdsPiece_21 rfl rfl (fun c_21 => ?_) (fun c_21 => ?_)
  · skip
    refine w_aload_n (pc' := 35) (i := 0) (by rfl) (by rfl) dX12_holdsPiece_34 rfl ?_
    refine w_getS (pc' := 38) (q := 181) fg_X12_163 kd_133 sf_X12_72 gr_133_72 dX12_holdsPiece_35 rfl ?_
    refine w_iload_n (pc' := 39) (i := 1) (by rfl) (by rfl) dX12_holdsPiece_38 rfl ?_
    refine w_iald (pc' := 40) kd_181 (by omega) (by omega) dX12_holdsPiece_39 rfl ?_
    refine w_bipush (pc' := 42) (by decide) (by decide) dX12_holdsPiece_40 rfl ?_
    refine w_icmp_ne (pc' := 45) (t := 63) dX12_holdsPiece_42 rfl rfl (fun c_42 => ?_) (fun c_42 => ?_)
    · skip
      refine w_aload_n (pc' := 64) (i := 0) (by rfl) (by rfl) dX12_holdsPiece_63 rfl ?_
      refine w_getS (pc' := 67) (q := 181) fg_X12_163 kd_133 sf_X12_72 gr_133_72 dX12_holdsPiece_64 rfl ?_
      refine w_iload_n (pc' := 68) (i := 1) (by rfl) (by rfl) dX12_holdsPiece_67 rfl ?_
      refine w_iald (pc' := 69) kd_181 (by omega) (by omega) dX12_holdsPiece_68 rfl ?_
      refine w_bipush (pc' := 71) (by decide) (by decide) dX12_holdsPiece_69 rfl ?_
      refine w_icmp_ne (pc' := 74) (t := 92) dX12_holdsPiece_71 rfl rfl (fun c_71 => ?_) (fun c_71 => ?_)
      · skip
        refine w_iload_n (pc' := 93) (i := 2) (by rfl) (by rfl) dX12_holdsPiece_92 rfl ?_
        refine w_aload_n (pc' := 94) (i := 0) (by rfl) (by rfl) dX12_holdsPiece_93 rfl ?_
        refine w_getS (pc' := 97) (q := 182) fg_X12_166 kd_133 sf_X12_73 gr_133_73 dX12_holdsPiece_94 rfl ?_
        refine w_iload_n (pc' := 98) (i := 1) (by rfl) (by rfl) dX12_holdsPiece_97 rfl ?_
        refine w_iald (pc' := 99) kd_182 (by omega) (by omega) dX12_holdsPiece_98 rfl ?_
        refine w_icmp_le (pc' := 102) (t := 106) dX12_holdsPiece_99 rfl rfl (fun c_99 => ?_) (fun c_99 => ?_)
        · skip
          refine w_iconst (pc' := 107) (by decide) dX12_holdsPiece_106 rfl ?_
          refine w_zreturn rfl (.inl rfl) dX12_holdsPiece_107 ?_
          first
            | (exfalso; omega)
            | exact ⟨gbT (by unfold TVm; (repeat' split) <;> omega), rfl⟩
            | exact ⟨gbF (by unfold TVm; (repeat' split) <;> omega), rfl⟩
        · skip
          refine w_iconst (pc' := 103) (by decide) dX12_holdsPiece_102 rfl ?_
          refine w_goto (pc' := 107) dX12_holdsPiece_103 rfl ?_
          refine w_zreturn rfl (.inr rfl) dX12_holdsPiece_107 ?_
          first
            | (exfalso; omega)
            | exact ⟨gbT (by unfold TVm; (repeat' split) <;> omega), rfl⟩
            | exact ⟨gbF (by unfold TVm; (repeat' split) <;> omega), rfl⟩
      · skip
        refine w_iload_n (pc' := 75) (i := 2) (by rfl) (by rfl) dX12_holdsPiece_74 rfl ?_
        refine w_aload_n (pc' := 76) (i := 0) (by rfl) (by rfl) dX12_holdsPiece_75 rfl ?_
        refine w_getS (pc' := 79) (q := 182) fg_X12_166 kd_133 sf_X12_73 gr_133_73 dX12_holdsPiece_76 rfl ?_
        refine w_iload_n (pc' := 80) (i := 1) (by rfl) (by rfl) dX12_holdsPiece_79 rfl ?_
        refine w_iald (pc' := 81) kd_182 (by omega) (by omega) dX12_holdsPiece_80 rfl ?_
        refine w_icmp_ne (pc' := 84) (t := 88) dX12_holdsPiece_81 rfl rfl (fun c_81 => ?_) (fun c_81 => ?_)
        · skip
          refine w_iconst (pc' := 89) (by decide) dX12_holdsPiece_88 rfl ?_
          refine w_goto (pc' := 107) dX12_holdsPiece_89 rfl ?_
          refine w_zreturn rfl (.inl rfl) dX12_holdsPiece_107 ?_
          first
            | (exfalso; omega)
            | exact ⟨gbT (by unfold TVm; (repeat' split) <;> omega), rfl⟩
            | exact ⟨gbF (by unfold TVm; (repeat' split) <;> omega), rfl⟩
        · skip
          refine w_iconst (pc' := 85) (by decide) dX12_holdsPiece_84 rfl ?_
          refine w_goto (pc' := 107) dX12_holdsPiece_85 rfl ?_
          refine w_zreturn rfl (.inr rfl) dX12_holdsPiece_107 ?_
          first
            | (exfalso; omega)
            | exact ⟨gbT (by unfold TVm; (repeat' split) <;> omega), rfl⟩
            | exact ⟨gbF (by unfold TVm; (repeat' split) <;> omega), rfl⟩
    · skip
      refine w_iload_n (pc' := 46) (i := 2) (by rfl) (by rfl) dX12_holdsPiece_45 rfl ?_
      refine w_aload_n (pc' := 47) (i := 0) (by rfl) (by rfl) dX12_holdsPiece_46 rfl ?_
      refine w_getS (pc' := 50) (q := 182) fg_X12_166 kd_133 sf_X12_73 gr_133_73 dX12_holdsPiece_47 rfl ?_
      refine w_iload_n (pc' := 51) (i := 1) (by rfl) (by rfl) dX12_holdsPiece_50 rfl ?_
      refine w_iald (pc' := 52) kd_182 (by omega) (by omega) dX12_holdsPiece_51 rfl ?_
      refine w_icmp_ge (pc' := 55) (t := 59) dX12_holdsPiece_52 rfl rfl (fun c_52 => ?_) (fun c_52 => ?_)
      · skip
        refine w_iconst (pc' := 60) (by decide) dX12_holdsPiece_59 rfl ?_
        refine w_goto (pc' := 107) dX12_holdsPiece_60 rfl ?_
        refine w_zreturn rfl (.inl rfl) dX12_holdsPiece_107 ?_
        first
          | (exfalso; omega)
          | exact ⟨gbT (by unfold TVm; (repeat' split) <;> omega), rfl⟩
          | exact ⟨gbF (by unfold TVm; (repeat' split) <;> omega), rfl⟩
      · skip
        refine w_iconst (pc' := 56) (by decide) dX12_holdsPiece_55 rfl ?_
        refine w_goto (pc' := 107) dX12_holdsPiece_56 rfl ?_
        refine w_zreturn rfl (.inr rfl) dX12_holdsPiece_107 ?_
        first
          | (exfalso; omega)
          | exact ⟨gbT (by unfold TVm; (repeat' split) <;> omega), rfl⟩
          | exact ⟨gbF (by unfold TVm; (repeat' split) <;> omega), rfl⟩
  · skip
    refine w_iload_n (pc' := 25) (i := 2) (by rfl) (by rfl) dX12_holdsPiece_24 rfl ?_
    refine w_if_le (pc' := 28) (t := 32) dX12_holdsPiece_25 rfl rfl (fun c_25 => ?_) (fun c_25 => ?_)
    · skip
      refine w_iconst (pc' := 33) (by decide) dX12_holdsPiece_32 rfl ?_
      refine w_zreturn rfl (.inl rfl) dX12_holdsPiece_33 ?_
      first
        | (exfalso; omega)
        | exact ⟨gbT (by unfold TVm; (repeat' split) <;> omega), rfl⟩
        | exact ⟨gbF (by unfold TVm; (repeat' split) <;> omega), rfl⟩
    · skip
      refine w_iconst (pc' := 29) (by decide) dX12_holdsPiece_28 rfl ?_
      refine w_goto (pc' := 33) dX12_holdsPiece_29 rfl ?_
      refine w_zreturn rfl (.inr rfl) dX12_holdsPiece_33 ?_
      first
        | (exfalso; omega)
        | exact ⟨gbT (by unfold TVm; (repeat' split) <;> omega), rfl⟩
        | exact ⟨gbF (by unfold TVm; (repeat' split) <;> omega), rfl⟩
theorem q_hp {σ0 σ : gH} (hq : QM σ0 σ) (H : gH) (e0 : H 187 = σ 187) (e1 : H 180 = σ 180) (e2 : H 181 = σ 181) (e3 : H 182 = σ 182) (k : Int) (hk : 0 ≤ k ∧ k < 1400) (hp : 0 ≤ σ0 180 k ∧ σ0 180 k ≤ 13) : Mt mX12_holdsPiece 1 [gR 133, gI k] H (rE (gI (gb (TVm (σ 187 (σ0 180 k)) (σ0 180 k) (σ0 181 k) (σ0 182 k)))) H) := by
  have r0 : H 180 k = σ0 180 k := by rw [e1]; exact hq.rd (.inr rfl)
  have r1 : H 181 k = σ0 181 k := by rw [e2]; exact hq.rd (.inr rfl)
  have r2 : H 182 k = σ0 182 k := by rw [e3]; exact hq.rd (.inr rfl)
  have x := q_holdsPiece H k hk (by rw [r0]; exact hp)
  rw [r0, r1, r2, e0] at x
  exact x
theorem cod_at {p : Int} (h : 0 ≤ p ∧ p ≤ 13) : cod p = p := by
  unfold cod
  rw [if_neg (by omega), if_neg (by omega), if_neg (by omega), if_neg (by omega)]
set_option maxHeartbeats 4000000 in
theorem q_holds {σ0 σ : gH} (hI : Inv σ0) (hq : QM σ0 σ) {c : Nat} {l : Int} (hL : LWR σ0 c l) (r : Int) (hr : 0 ≤ r ∧ r < 10) : Mt mX12_holds 2 [gR 133, gI l, gI r] σ (fun v σ' => v = gI (gb (HM σ0 l r (σ 187) ≠ 0)) ∧ ∃ V, σ' = gUr σ 188 V) := by
  refine Mt.walk (ls := [gR 133, gI l, gI r, gX 1, gX 1, gX 1]) pn_X12 rfl (fun _ _ h => by cases h.1) (Nat.le_of_ble_eq_true rfl) rfl ?_
  have hl6 : -1 ≤ l ∧ l < 6 := by
    rcases hL with h | h
    · omega
    · omega
  have hwf := hL.wfM hr.1 hr.2
  have hfb : ∀ _u : Unit, ¬ (l = -1 ∨ σ0 178 (10 * l + r) = -1) → 0 ≤ σ0 178 (10 * l + r) ∧ σ0 178 (10 * l + r) < σ0 179 (10 * l + r) ∧ σ0 179 (10 * l + r) ≤ 200 := fun _ h => by
    rcases hL.rule hr.1 hr.2 with x | x
    · exact absurd x.2 h
    · omega
  refine w_iload_n (pc' := 1) (i := 1) (by rfl) (by rfl) dX12_holds_0 rfl ?_
  refine w_iconst (pc' := 2) (by decide) dX12_holds_1 rfl ?_
  refine w_icmp_eq (pc' := 5) (t := 20) dX12_holds_2 rfl rfl (fun c_2 => ?_) (fun c_2 => ?_)
  · skip
    refine w_iconst (pc' := 21) (by decide) dX12_holds_20 rfl ?_
    refine w_zreturn rfl (.inl rfl) dX12_holds_21 ?_
    exact ⟨gbF (by unfold HM; rw [if_pos (by omega)]; omega), σ 188, gUr_id.symm⟩
  · skip
    refine w_aload_n (pc' := 6) (i := 0) (by rfl) (by rfl) dX12_holds_5 rfl ?_
    refine w_getS (pc' := 9) (q := 178) fg_X12_154 kd_133 sf_X12_69 gr_133_69 dX12_holds_6 rfl ?_
    refine w_bipush (pc' := 11) (by decide) (by decide) dX12_holds_9 rfl ?_
    refine w_iload_n (pc' := 12) (i := 1) (by rfl) (by rfl) dX12_holds_11 rfl ?_
    refine v_imul (pc' := 13) (by omega) dX12_holds_12 rfl ?_
    refine w_iload_n (pc' := 14) (i := 2) (by rfl) (by rfl) dX12_holds_13 rfl ?_
    refine v_iadd (pc' := 15) (by omega) dX12_holds_14 rfl ?_
    refine w_iald (pc' := 16) kd_178 (by omega) (by omega) dX12_holds_15 rfl ?_
    rw [(hq).rd (k := 178) (i := (10 * l) + r) (.inr rfl)]
    refine w_iconst (pc' := 17) (by decide) dX12_holds_16 rfl ?_
    refine w_icmp_ne (pc' := 20) (t := 22) dX12_holds_17 rfl rfl (fun c_17 => ?_) (fun c_17 => ?_)
    · skip
      refine w_iconst (pc' := 23) (by decide) dX12_holds_22 rfl ?_
      refine w_istore_n (pc' := 24) (i := 3) (ls' := [gR 133, gI l, gI r, gI 0, gX 1, gX 1]) (by rfl) (by decide) (by rfl) dX12_holds_23 rfl ?_
      refine w_sipush (pc' := 27) (by decide) (by decide) dX12_holds_24 rfl ?_
      refine w_iload_n (pc' := 28) (i := 1) (by rfl) (by rfl) dX12_holds_27 rfl ?_
      refine v_imul (pc' := 29) (by omega) dX12_holds_28 rfl ?_
      refine w_aload_n (pc' := 30) (i := 0) (by rfl) (by rfl) dX12_holds_29 rfl ?_
      refine w_getS (pc' := 33) (q := 178) fg_X12_154 kd_133 sf_X12_69 gr_133_69 dX12_holds_30 rfl ?_
      refine w_bipush (pc' := 35) (by decide) (by decide) dX12_holds_33 rfl ?_
      refine w_iload_n (pc' := 36) (i := 1) (by rfl) (by rfl) dX12_holds_35 rfl ?_
      refine v_imul (pc' := 37) (by omega) dX12_holds_36 rfl ?_
      refine w_iload_n (pc' := 38) (i := 2) (by rfl) (by rfl) dX12_holds_37 rfl ?_
      refine v_iadd (pc' := 39) (by omega) dX12_holds_38 rfl ?_
      refine w_iald (pc' := 40) kd_178 (by omega) (by omega) dX12_holds_39 rfl ?_
      rw [(hq).rd (k := 178) (i := (10 * l) + r) (.inr rfl)]
      refine v_iadd (pc' := 41) (by have x := hfb () (by omega); omega) dX12_holds_40 rfl ?_
      refine w_istore (pc' := 43) (ls' := [gR 133, gI l, gI r, gI 0, gI ((200 * l) + (σ0 178 ((10 * l) + r))), gX 1]) (by decide) (by rfl) dX12_holds_41 rfl ?_
      replace hwf := hwf (by omega)
      replace hfb := hfb () (by omega)
      have hl_43 : ∀ (mm : Nat) (k n : Int) (V : Int → Int), ((200 * l + σ0 178 (10 * l + r)) + (σ0 179 (10 * l + r) - σ0 178 (10 * l + r)) - k).toNat = mm → ((200 * l + σ0 178 (10 * l + r)) ≤ k) → (k ≤ (200 * l + σ0 178 (10 * l + r)) + (σ0 179 (10 * l + r) - σ0 178 (10 * l + r))) → (n = htM (fun k => cod (σ0 180 (200 * l + σ0 178 (10 * l + r) + k))) (k - (200 * l + σ0 178 (10 * l + r))).toNat) → (∀ j, 0 ≤ j → j < n → V j = stV (fun k => cod (σ0 180 (200 * l + σ0 178 (10 * l + r) + k))) (fun k => gb (TVm (σ 187 (σ0 180 (200 * l + σ0 178 (10 * l + r) + k))) (σ0 180 (200 * l + σ0 178 (10 * l + r) + k)) (σ0 181 (200 * l + σ0 178 (10 * l + r) + k)) (σ0 182 (200 * l + σ0 178 (10 * l + r) + k)))) (k - (200 * l + σ0 178 (10 * l + r))).toNat j) → Wp mX12_holds 2 (fun v σ' => v = gI (gb (HM σ0 l r (σ 187) ≠ 0)) ∧ ∃ V, σ' = gUr σ 188 V) (gUr σ 188 V) 43 [gR 133, gI l, gI r, gI n, gI k, gX 1] [] := by
        intro m_43
        induction m_43 using Nat.strongRecOn with
        | _ m_43 ih_43 =>
          intro k n V hmeas_43 h0 h1 hn hv
          have ei : (200 * l + σ0 178 (10 * l + r)) + (k - (200 * l + σ0 178 (10 * l + r))) = k := by omega
          have s := fun (_u : Unit) (hlt : k < (200 * l + σ0 178 (10 * l + r)) + (σ0 179 (10 * l + r) - σ0 178 (10 * l + r))) => VS_s (h := n) (V := V) (mk := (fun k => cod (σ0 180 (200 * l + σ0 178 (10 * l + r) + k)))) (tv := (fun k => gb (TVm (σ 187 (σ0 180 (200 * l + σ0 178 (10 * l + r) + k))) (σ0 180 (200 * l + σ0 178 (10 * l + r) + k)) (σ0 181 (200 * l + σ0 178 (10 * l + r) + k)) (σ0 182 (200 * l + σ0 178 (10 * l + r) + k))))) hwf.1 (k := k - (200 * l + σ0 178 (10 * l + r))) (by omega) (by omega) hn hv
          simp only [ei] at s
          have hpr : ∀ _u : Unit, k < (200 * l + σ0 178 (10 * l + r)) + (σ0 179 (10 * l + r) - σ0 178 (10 * l + r)) → (0 ≤ σ0 180 k ∧ σ0 180 k ≤ 13) ∨ σ0 180 k = 20 ∨ σ0 180 k = 21 ∨ σ0 180 k = 22 := fun _ h => by
            have x := hwf.2 (k - (200 * l + σ0 178 (10 * l + r))) (by omega) (by omega)
            rw [ei] at x
            exact x
          have hh0 : 0 ≤ n ∧ n ≤ 64 := by
            have x := htM_pos (mk := (fun k => cod (σ0 180 (200 * l + σ0 178 (10 * l + r) + k)))) (n := (σ0 179 (10 * l + r) - σ0 178 (10 * l + r)).toNat) (by rw [hwf.1.2.1]; omega) (k - (200 * l + σ0 178 (10 * l + r))).toNat (by omega)
            have y := hwf.1.2.2 (k - (200 * l + σ0 178 (10 * l + r))).toNat (by omega)
            omega
          have s14 := fun (_u : Unit) (hlt : k < (200 * l + σ0 178 (10 * l + r)) + (σ0 179 (10 * l + r) - σ0 178 (10 * l + r))) (h : σ0 180 k = 20) => (s () hlt).1 (by rw [h]; rfl)
          have s15 := fun (_u : Unit) (hlt : k < (200 * l + σ0 178 (10 * l + r)) + (σ0 179 (10 * l + r) - σ0 178 (10 * l + r))) (h : σ0 180 k = 21) => (s () hlt).2.1 (by rw [h]; rfl)
          have s16 := fun (_u : Unit) (hlt : k < (200 * l + σ0 178 (10 * l + r)) + (σ0 179 (10 * l + r) - σ0 178 (10 * l + r))) (h : σ0 180 k = 22) => (s () hlt).2.2.1 (by rw [h]; rfl)
          have sat := fun (_u : Unit) (hlt : k < (200 * l + σ0 178 (10 * l + r)) + (σ0 179 (10 * l + r) - σ0 178 (10 * l + r))) (h : 0 ≤ σ0 180 k ∧ σ0 180 k ≤ 13) => (s () hlt).2.2.2 (by rw [cod_at h]; omega) (by rw [cod_at h]; omega) (by rw [cod_at h]; omega)
          have hln : ∀ _u : Unit, k < (200 * l + σ0 178 (10 * l + r)) + (σ0 179 (10 * l + r) - σ0 178 (10 * l + r)) → (σ0 180 k = 21 ∨ σ0 180 k = 22) → 2 ≤ n := fun _ h1 h2 => by
            rcases h2 with h2 | h2
            · exact (s15 () h1 h2).1
            · exact (s16 () h1 h2).1
          have hat : ∀ _u : Unit, k < (200 * l + σ0 178 (10 * l + r)) + (σ0 179 (10 * l + r) - σ0 178 (10 * l + r)) → σ0 180 k ≠ 20 → σ0 180 k ≠ 21 → σ0 180 k ≠ 22 → (0 ≤ σ0 180 k ∧ σ0 180 k ≤ 13) ∧ n ≤ 63 := fun _ h1 h2 h3 h4 => by
            rcases hpr () h1 with h | h | h | h
            · exact ⟨h, (sat () h1 h).1⟩
            · exact absurd h h2
            · exact absurd h h3
            · exact absurd h h4
          refine w_iload (pc' := 45) (by rfl) dX12_holds_43 rfl ?_
          refine w_sipush (pc' := 48) (by decide) (by decide) dX12_holds_45 rfl ?_
          refine w_iload_n (pc' := 49) (i := 1) (by rfl) (by rfl) dX12_holds_48 rfl ?_
          refine v_imul (pc' := 50) (by omega) dX12_holds_49 rfl ?_
          refine w_aload_n (pc' := 51) (i := 0) (by rfl) (by rfl) dX12_holds_50 rfl ?_
          refine w_getS (pc' := 54) (q := 179) fg_X12_157 kd_133 sf_X12_70 gr_133_70 dX12_holds_51 rfl ?_
          refine w_bipush (pc' := 56) (by decide) (by decide) dX12_holds_54 rfl ?_
          refine w_iload_n (pc' := 57) (i := 1) (by rfl) (by rfl) dX12_holds_56 rfl ?_
          refine v_imul (pc' := 58) (by omega) dX12_holds_57 rfl ?_
          refine w_iload_n (pc' := 59) (i := 2) (by rfl) (by rfl) dX12_holds_58 rfl ?_
          refine v_iadd (pc' := 60) (by omega) dX12_holds_59 rfl ?_
          refine w_iald (pc' := 61) kd_179 (by omega) (by omega) dX12_holds_60 rfl ?_
          show Wp _ _ _ _ _ _ [gI (σ 179 ((10 * l) + r)), gI (200 * l), gI k]
          rw [(hq).rd (k := 179) (i := (10 * l) + r) (.inr rfl)]
          refine v_iadd (pc' := 62) (by omega) dX12_holds_61 rfl ?_
          refine w_icmp_ge (pc' := 65) (t := 217) dX12_holds_62 rfl rfl (fun c_62 => ?_) (fun c_62 => ?_)
          · skip
            refine w_aload_n (pc' := 218) (i := 0) (by rfl) (by rfl) dX12_holds_217 rfl ?_
            refine w_getS (pc' := 221) (q := 188) fg_X12_184 kd_133 sf_X12_86 gr_133_86 dX12_holds_218 rfl ?_
            refine w_iconst (pc' := 222) (by decide) dX12_holds_221 rfl ?_
            refine w_zald (pc' := 223) kd_188 (by omega) (by omega) dX12_holds_222 rfl (fun z_222 => ?_)
            show Wp _ _ _ _ _ _ [gI (V 0)]
            refine w_zreturn rfl (by exact z_222) dX12_holds_223 ?_
            have ee : k - (200 * l + σ0 178 (10 * l + r)) = σ0 179 (10 * l + r) - σ0 178 (10 * l + r) := by omega
            rw [ee, hwf.1.2.1] at hn
            have e0 := hv 0 (by omega) (by omega)
            rw [ee] at e0
            have eH : HM σ0 l r (σ 187) = stV (fun k => cod (σ0 180 (200 * l + σ0 178 (10 * l + r) + k))) (fun k => gb (TVm (σ 187 (σ0 180 (200 * l + σ0 178 (10 * l + r) + k))) (σ0 180 (200 * l + σ0 178 (10 * l + r) + k)) (σ0 181 (200 * l + σ0 178 (10 * l + r) + k)) (σ0 182 (200 * l + σ0 178 (10 * l + r) + k)))) (σ0 179 (10 * l + r) - σ0 178 (10 * l + r)).toNat 0 := if_neg (by omega)
            refine ⟨congrArg gI ?_, V, rfl⟩
            rw [eH, ← e0]
            have z01 := stV_01 (mk := (fun k => cod (σ0 180 (200 * l + σ0 178 (10 * l + r) + k)))) (tv := (fun k => gb (TVm (σ 187 (σ0 180 (200 * l + σ0 178 (10 * l + r) + k))) (σ0 180 (200 * l + σ0 178 (10 * l + r) + k)) (σ0 181 (200 * l + σ0 178 (10 * l + r) + k)) (σ0 182 (200 * l + σ0 178 (10 * l + r) + k))))) (fun _ => gb_01 _) (σ0 179 (10 * l + r) - σ0 178 (10 * l + r)).toNat 0
            rw [← e0] at z01
            rcases z01 with z | z
            · rw [z]; rfl
            · rw [z]; rfl
          · skip
            refine w_aload_n (pc' := 66) (i := 0) (by rfl) (by rfl) dX12_holds_65 rfl ?_
            refine w_getS (pc' := 69) (q := 180) fg_X12_160 kd_133 sf_X12_71 gr_133_71 dX12_holds_66 rfl ?_
            refine w_iload (pc' := 71) (by rfl) dX12_holds_69 rfl ?_
            refine w_iald (pc' := 72) kd_180 (by omega) (by omega) dX12_holds_71 rfl ?_
            show Wp _ _ _ _ _ _ [gI (σ 180 k)]
            rw [(hq).rd (k := 180) (i := k) (.inr rfl)]
            refine w_istore (pc' := 74) (ls' := [gR 133, gI l, gI r, gI n, gI k, gI (σ0 180 k)]) (by decide) (by rfl) dX12_holds_72 rfl ?_
            refine w_iload (pc' := 76) (by rfl) dX12_holds_74 rfl ?_
            refine w_bipush (pc' := 78) (by decide) (by decide) dX12_holds_76 rfl ?_
            refine w_icmp_ne (pc' := 81) (t := 108) dX12_holds_78 rfl rfl (fun c_78 => ?_) (fun c_78 => ?_)
            · skip
              refine w_iload (pc' := 110) (by rfl) dX12_holds_108 rfl ?_
              refine w_bipush (pc' := 112) (by decide) (by decide) dX12_holds_110 rfl ?_
              refine w_icmp_eq (pc' := 115) (t := 122) dX12_holds_112 rfl rfl (fun c_112 => ?_) (fun c_112 => ?_)
              · skip
                refine v_iinc (pc' := 125) (x := n) (ls' := [gR 133, gI l, gI r, gI (n + (-1)), gI k, gI (σ0 180 k)]) (by have x := hln () (by omega) (by omega); omega) (by decide) (by rfl) (by rfl) dX12_holds_122 rfl ?_
                refine w_aload_n (pc' := 126) (i := 0) (by rfl) (by rfl) dX12_holds_125 rfl ?_
                refine w_getS (pc' := 129) (q := 188) fg_X12_184 kd_133 sf_X12_86 gr_133_86 dX12_holds_126 rfl ?_
                refine w_iload_n (pc' := 130) (i := 3) (by rfl) (by rfl) dX12_holds_129 rfl ?_
                refine w_iconst (pc' := 131) (by decide) dX12_holds_130 rfl ?_
                refine v_isub (pc' := 132) (by have x := hln () (by omega) (by omega); omega) dX12_holds_131 rfl ?_
                have hj_192 : Wp mX12_holds 2 (fun v σ' => v = gI (gb (HM σ0 l r (σ 187) ≠ 0)) ∧ ∃ V, σ' = gUr σ 188 V) (gUr σ 188 V) 192 [gR 133, gI l, gI r, gI (n + (-1)), gI k, gI (σ0 180 k)] [gI (gb ((σ0 180 k = 21 ∧ V (n + (-1) - 1) ≠ 0 ∧ V (n + (-1)) ≠ 0) ∨ (σ0 180 k ≠ 21 ∧ (V (n + (-1) - 1) ≠ 0 ∨ V (n + (-1)) ≠ 0)))), gI ((n + (-1)) - 1), gR 188] := by
                  refine w_zast (pc' := 193) kd_188 (gb_01 _) (by have x := hln () (by omega) (by omega); omega) (by have x := hln () (by omega) (by omega); omega) dX12_holds_192 rfl ?_
                  refine Wp.heq (σ' := gUr σ 188 (updI V ((n + (-1)) - 1) (gb ((σ0 180 k = 21 ∧ V (n + (-1) - 1) ≠ 0 ∧ V (n + (-1)) ≠ 0) ∨ (σ0 180 k ≠ 21 ∧ (V (n + (-1) - 1) ≠ 0 ∨ V (n + (-1)) ≠ 0)))))) gUp_row ?_
                  refine w_goto (pc' := 211) dX12_holds_193 rfl ?_
                  refine v_iinc (pc' := 214) (x := k) (ls' := [gR 133, gI l, gI r, gI (n + (-1)), gI (k + 1), gI (σ0 180 k)]) (by omega) (by decide) (by rfl) (by rfl) dX12_holds_211 rfl ?_
                  refine w_goto (pc' := 43) dX12_holds_214 rfl ?_
                  refine Wp.lose (ls' := [gR 133, gI l, gI r, gI (n + (-1)), gI (k + 1), gX 1]) ⟨.inr rfl, ⟨.inr rfl, ⟨.inr rfl, ⟨.inr rfl, ⟨.inr rfl, ⟨.inl rfl, trivial⟩⟩⟩⟩⟩⟩ ?_
                  exact ih_43 _ (by omega) (k + 1) (n + (-1)) (updI V ((n + (-1)) - 1) (gb ((σ0 180 k = 21 ∧ V (n + (-1) - 1) ≠ 0 ∧ V (n + (-1)) ≠ 0) ∨ (σ0 180 k ≠ 21 ∧ (V (n + (-1) - 1) ≠ 0 ∨ V (n + (-1)) ≠ 0))))) rfl (by omega) (by omega) (by rw [show k + 1 - (200 * l + σ0 178 (10 * l + r)) = k - (200 * l + σ0 178 (10 * l + r)) + 1 by omega]; first | exact (s14 () (by omega) (by assumption)).2.1.symm | (rw [(s15 () (by omega) (by assumption)).2.1]; omega) | (rw [(s16 () (by omega) (by assumption)).2.1]; omega) | exact (sat () (by omega) (hat () (by omega) (by omega) (by omega) (by omega)).1).2.1.symm) (by intro j j0 j1; rw [show k + 1 - (200 * l + σ0 178 (10 * l + r)) = k - (200 * l + σ0 178 (10 * l + r)) + 1 by omega]; first | exact (s14 () (by omega) (by assumption)).2.2 _ (by unfold gb; rfl) j j0 j1 | (rw [show n + (-1) - 1 = n - 2 by omega, show n + (-1) = n - 1 by omega]; first | exact (s15 () (by omega) (by assumption)).2.2 _ (gb_congr (by omega)) j j0 (by omega) | exact (s16 () (by omega) (by assumption)).2.2 _ (gb_congr (by omega)) j j0 (by omega)) | exact (sat () (by omega) (hat () (by omega) (by omega) (by omega) (by omega)).1).2.2 _ rfl j j0 j1)
                refine w_iload (pc' := 134) (by rfl) dX12_holds_132 rfl ?_
                refine w_bipush (pc' := 136) (by decide) (by decide) dX12_holds_134 rfl ?_
                refine w_icmp_ne (pc' := 139) (t := 167) dX12_holds_136 rfl rfl (fun c_136 => ?_) (fun c_136 => ?_)
                · skip
                  refine w_aload_n (pc' := 168) (i := 0) (by rfl) (by rfl) dX12_holds_167 rfl ?_
                  refine w_getS (pc' := 171) (q := 188) fg_X12_184 kd_133 sf_X12_86 gr_133_86 dX12_holds_168 rfl ?_
                  refine w_iload_n (pc' := 172) (i := 3) (by rfl) (by rfl) dX12_holds_171 rfl ?_
                  refine w_iconst (pc' := 173) (by decide) dX12_holds_172 rfl ?_
                  refine v_isub (pc' := 174) (by have x := hln () (by omega) (by omega); omega) dX12_holds_173 rfl ?_
                  refine w_zald (pc' := 175) kd_188 (by have x := hln () (by omega) (by omega); omega) (by have x := hln () (by omega) (by omega); omega) dX12_holds_174 rfl (fun z_174 => ?_)
                  show Wp _ _ _ _ _ _ [gI (V ((n + (-1)) - 1)), gI ((n + (-1)) - 1), gR 188]
                  refine w_if_ne (pc' := 178) (t := 187) dX12_holds_175 rfl rfl (fun c_175 => ?_) (fun c_175 => ?_)
                  · skip
                    refine w_iconst (pc' := 188) (by decide) dX12_holds_187 rfl ?_
                    refine w_goto (pc' := 192) dX12_holds_188 rfl ?_
                    exact Wp.stI (by first | (exfalso; omega) | exact (gb_t (P := (σ0 180 k = 21 ∧ V (n + (-1) - 1) ≠ 0 ∧ V (n + (-1)) ≠ 0) ∨ (σ0 180 k ≠ 21 ∧ (V (n + (-1) - 1) ≠ 0 ∨ V (n + (-1)) ≠ 0))) (by omega)).symm) hj_192
                  · skip
                    refine w_aload_n (pc' := 179) (i := 0) (by rfl) (by rfl) dX12_holds_178 rfl ?_
                    refine w_getS (pc' := 182) (q := 188) fg_X12_184 kd_133 sf_X12_86 gr_133_86 dX12_holds_179 rfl ?_
                    refine w_iload_n (pc' := 183) (i := 3) (by rfl) (by rfl) dX12_holds_182 rfl ?_
                    refine w_zald (pc' := 184) kd_188 (by have x := hln () (by omega) (by omega); omega) (by have x := hln () (by omega) (by omega); omega) dX12_holds_183 rfl (fun z_183 => ?_)
                    show Wp _ _ _ _ _ _ [gI (V (n + (-1))), gI ((n + (-1)) - 1), gR 188]
                    refine w_if_eq (pc' := 187) (t := 191) dX12_holds_184 rfl rfl (fun c_184 => ?_) (fun c_184 => ?_)
                    · skip
                      refine w_iconst (pc' := 192) (by decide) dX12_holds_191 rfl ?_
                      exact Wp.stI (by first | (exfalso; omega) | exact (gb_f (P := (σ0 180 k = 21 ∧ V (n + (-1) - 1) ≠ 0 ∧ V (n + (-1)) ≠ 0) ∨ (σ0 180 k ≠ 21 ∧ (V (n + (-1) - 1) ≠ 0 ∨ V (n + (-1)) ≠ 0))) (by omega)).symm) hj_192
                    · skip
                      refine w_iconst (pc' := 188) (by decide) dX12_holds_187 rfl ?_
                      refine w_goto (pc' := 192) dX12_holds_188 rfl ?_
                      exact Wp.stI (by first | (exfalso; omega) | exact (gb_t (P := (σ0 180 k = 21 ∧ V (n + (-1) - 1) ≠ 0 ∧ V (n + (-1)) ≠ 0) ∨ (σ0 180 k ≠ 21 ∧ (V (n + (-1) - 1) ≠ 0 ∨ V (n + (-1)) ≠ 0))) (by omega)).symm) hj_192
                · skip
                  refine w_aload_n (pc' := 140) (i := 0) (by rfl) (by rfl) dX12_holds_139 rfl ?_
                  refine w_getS (pc' := 143) (q := 188) fg_X12_184 kd_133 sf_X12_86 gr_133_86 dX12_holds_140 rfl ?_
                  refine w_iload_n (pc' := 144) (i := 3) (by rfl) (by rfl) dX12_holds_143 rfl ?_
                  refine w_iconst (pc' := 145) (by decide) dX12_holds_144 rfl ?_
                  refine v_isub (pc' := 146) (by have x := hln () (by omega) (by omega); omega) dX12_holds_145 rfl ?_
                  refine w_zald (pc' := 147) kd_188 (by have x := hln () (by omega) (by omega); omega) (by have x := hln () (by omega) (by omega); omega) dX12_holds_146 rfl (fun z_146 => ?_)
                  show Wp _ _ _ _ _ _ [gI (V ((n + (-1)) - 1)), gI ((n + (-1)) - 1), gR 188]
                  refine w_if_eq (pc' := 150) (t := 163) dX12_holds_147 rfl rfl (fun c_147 => ?_) (fun c_147 => ?_)
                  · skip
                    refine w_iconst (pc' := 164) (by decide) dX12_holds_163 rfl ?_
                    refine w_goto (pc' := 192) dX12_holds_164 rfl ?_
                    exact Wp.stI (by first | (exfalso; omega) | exact (gb_f (P := (σ0 180 k = 21 ∧ V (n + (-1) - 1) ≠ 0 ∧ V (n + (-1)) ≠ 0) ∨ (σ0 180 k ≠ 21 ∧ (V (n + (-1) - 1) ≠ 0 ∨ V (n + (-1)) ≠ 0))) (by omega)).symm) hj_192
                  · skip
                    refine w_aload_n (pc' := 151) (i := 0) (by rfl) (by rfl) dX12_holds_150 rfl ?_
                    refine w_getS (pc' := 154) (q := 188) fg_X12_184 kd_133 sf_X12_86 gr_133_86 dX12_holds_151 rfl ?_
                    refine w_iload_n (pc' := 155) (i := 3) (by rfl) (by rfl) dX12_holds_154 rfl ?_
                    refine w_zald (pc' := 156) kd_188 (by have x := hln () (by omega) (by omega); omega) (by have x := hln () (by omega) (by omega); omega) dX12_holds_155 rfl (fun z_155 => ?_)
                    show Wp _ _ _ _ _ _ [gI (V (n + (-1))), gI ((n + (-1)) - 1), gR 188]
                    refine w_if_eq (pc' := 159) (t := 163) dX12_holds_156 rfl rfl (fun c_156 => ?_) (fun c_156 => ?_)
                    · skip
                      refine w_iconst (pc' := 164) (by decide) dX12_holds_163 rfl ?_
                      refine w_goto (pc' := 192) dX12_holds_164 rfl ?_
                      exact Wp.stI (by first | (exfalso; omega) | exact (gb_f (P := (σ0 180 k = 21 ∧ V (n + (-1) - 1) ≠ 0 ∧ V (n + (-1)) ≠ 0) ∨ (σ0 180 k ≠ 21 ∧ (V (n + (-1) - 1) ≠ 0 ∨ V (n + (-1)) ≠ 0))) (by omega)).symm) hj_192
                    · skip
                      refine w_iconst (pc' := 160) (by decide) dX12_holds_159 rfl ?_
                      refine w_goto (pc' := 192) dX12_holds_160 rfl ?_
                      exact Wp.stI (by first | (exfalso; omega) | exact (gb_t (P := (σ0 180 k = 21 ∧ V (n + (-1) - 1) ≠ 0 ∧ V (n + (-1)) ≠ 0) ∨ (σ0 180 k ≠ 21 ∧ (V (n + (-1) - 1) ≠ 0 ∨ V (n + (-1)) ≠ 0))) (by omega)).symm) hj_192
              · skip
                refine w_iload (pc' := 117) (by rfl) dX12_holds_115 rfl ?_
                refine w_bipush (pc' := 119) (by decide) (by decide) dX12_holds_117 rfl ?_
                refine w_icmp_ne (pc' := 122) (t := 196) dX12_holds_119 rfl rfl (fun c_119 => ?_) (fun c_119 => ?_)
                · skip
                  refine w_aload_n (pc' := 197) (i := 0) (by rfl) (by rfl) dX12_holds_196 rfl ?_
                  refine w_getS (pc' := 200) (q := 188) fg_X12_184 kd_133 sf_X12_86 gr_133_86 dX12_holds_197 rfl ?_
                  refine w_iload_n (pc' := 201) (i := 3) (by rfl) (by rfl) dX12_holds_200 rfl ?_
                  refine w_aload_n (pc' := 202) (i := 0) (by rfl) (by rfl) dX12_holds_201 rfl ?_
                  refine w_iload (pc' := 204) (by rfl) dX12_holds_202 rfl ?_
                  refine v_callVE (pc' := 207) (st' := [gI (gb (TVm (σ 187 (σ0 180 k)) (σ0 180 k) (σ0 181 k) (σ0 182 k))), gI n, gR 188]) (d' := 1) (av := [gI k]) mi_mX12_holdsPiece lk_X12_500 rfl ci_X12 kd_133 rfl (Nat.le_of_ble_eq_true rfl) (Nat.le_of_ble_eq_true rfl) dX12_holds_204 rfl rfl (q_hp hq (gUr σ 188 V) rfl rfl rfl rfl k ⟨by omega, by omega⟩ (hat () (by omega) (by omega) (by omega) (by omega)).1) ?_
                  refine w_zast (pc' := 208) kd_188 (gb_01 _) (by have x := hat () (by omega) (by omega) (by omega) (by omega); omega) (by have x := hat () (by omega) (by omega) (by omega) (by omega); omega) dX12_holds_207 rfl ?_
                  refine Wp.heq (σ' := gUr σ 188 (updI V n (gb (TVm (σ 187 (σ0 180 k)) (σ0 180 k) (σ0 181 k) (σ0 182 k))))) gUp_row ?_
                  refine v_iinc (pc' := 211) (x := n) (ls' := [gR 133, gI l, gI r, gI (n + 1), gI k, gI (σ0 180 k)]) (by omega) (by decide) (by rfl) (by rfl) dX12_holds_208 rfl ?_
                  refine v_iinc (pc' := 214) (x := k) (ls' := [gR 133, gI l, gI r, gI (n + 1), gI (k + 1), gI (σ0 180 k)]) (by omega) (by decide) (by rfl) (by rfl) dX12_holds_211 rfl ?_
                  refine w_goto (pc' := 43) dX12_holds_214 rfl ?_
                  refine Wp.lose (ls' := [gR 133, gI l, gI r, gI (n + 1), gI (k + 1), gX 1]) ⟨.inr rfl, ⟨.inr rfl, ⟨.inr rfl, ⟨.inr rfl, ⟨.inr rfl, ⟨.inl rfl, trivial⟩⟩⟩⟩⟩⟩ ?_
                  exact ih_43 _ (by omega) (k + 1) (n + 1) (updI V n (gb (TVm (σ 187 (σ0 180 k)) (σ0 180 k) (σ0 181 k) (σ0 182 k)))) rfl (by omega) (by omega) (by rw [show k + 1 - (200 * l + σ0 178 (10 * l + r)) = k - (200 * l + σ0 178 (10 * l + r)) + 1 by omega]; first | exact (s14 () (by omega) (by assumption)).2.1.symm | (rw [(s15 () (by omega) (by assumption)).2.1]; omega) | (rw [(s16 () (by omega) (by assumption)).2.1]; omega) | exact (sat () (by omega) (hat () (by omega) (by omega) (by omega) (by omega)).1).2.1.symm) (by intro j j0 j1; rw [show k + 1 - (200 * l + σ0 178 (10 * l + r)) = k - (200 * l + σ0 178 (10 * l + r)) + 1 by omega]; first | exact (s14 () (by omega) (by assumption)).2.2 _ (by unfold gb; rfl) j j0 j1 | (rw [show n + (-1) - 1 = n - 2 by omega, show n + (-1) = n - 1 by omega]; first | exact (s15 () (by omega) (by assumption)).2.2 _ (gb_congr (by omega)) j j0 (by omega) | exact (s16 () (by omega) (by assumption)).2.2 _ (gb_congr (by omega)) j j0 (by omega)) | exact (sat () (by omega) (hat () (by omega) (by omega) (by omega) (by omega)).1).2.2 _ rfl j j0 j1)
                · skip
                  refine v_iinc (pc' := 125) (x := n) (ls' := [gR 133, gI l, gI r, gI (n + (-1)), gI k, gI (σ0 180 k)]) (by have x := hln () (by omega) (by omega); omega) (by decide) (by rfl) (by rfl) dX12_holds_122 rfl ?_
                  refine w_aload_n (pc' := 126) (i := 0) (by rfl) (by rfl) dX12_holds_125 rfl ?_
                  refine w_getS (pc' := 129) (q := 188) fg_X12_184 kd_133 sf_X12_86 gr_133_86 dX12_holds_126 rfl ?_
                  refine w_iload_n (pc' := 130) (i := 3) (by rfl) (by rfl) dX12_holds_129 rfl ?_
                  refine w_iconst (pc' := 131) (by decide) dX12_holds_130 rfl ?_
                  refine v_isub (pc' := 132) (by have x := hln () (by omega) (by omega); omega) dX12_holds_131 rfl ?_
                  have hj_192 : Wp mX12_holds 2 (fun v σ' => v = gI (gb (HM σ0 l r (σ 187) ≠ 0)) ∧ ∃ V, σ' = gUr σ 188 V) (gUr σ 188 V) 192 [gR 133, gI l, gI r, gI (n + (-1)), gI k, gI (σ0 180 k)] [gI (gb ((σ0 180 k = 21 ∧ V (n + (-1) - 1) ≠ 0 ∧ V (n + (-1)) ≠ 0) ∨ (σ0 180 k ≠ 21 ∧ (V (n + (-1) - 1) ≠ 0 ∨ V (n + (-1)) ≠ 0)))), gI ((n + (-1)) - 1), gR 188] := by
                    refine w_zast (pc' := 193) kd_188 (gb_01 _) (by have x := hln () (by omega) (by omega); omega) (by have x := hln () (by omega) (by omega); omega) dX12_holds_192 rfl ?_
                    refine Wp.heq (σ' := gUr σ 188 (updI V ((n + (-1)) - 1) (gb ((σ0 180 k = 21 ∧ V (n + (-1) - 1) ≠ 0 ∧ V (n + (-1)) ≠ 0) ∨ (σ0 180 k ≠ 21 ∧ (V (n + (-1) - 1) ≠ 0 ∨ V (n + (-1)) ≠ 0)))))) gUp_row ?_
                    refine w_goto (pc' := 211) dX12_holds_193 rfl ?_
                    refine v_iinc (pc' := 214) (x := k) (ls' := [gR 133, gI l, gI r, gI (n + (-1)), gI (k + 1), gI (σ0 180 k)]) (by omega) (by decide) (by rfl) (by rfl) dX12_holds_211 rfl ?_
                    refine w_goto (pc' := 43) dX12_holds_214 rfl ?_
                    refine Wp.lose (ls' := [gR 133, gI l, gI r, gI (n + (-1)), gI (k + 1), gX 1]) ⟨.inr rfl, ⟨.inr rfl, ⟨.inr rfl, ⟨.inr rfl, ⟨.inr rfl, ⟨.inl rfl, trivial⟩⟩⟩⟩⟩⟩ ?_
                    exact ih_43 _ (by omega) (k + 1) (n + (-1)) (updI V ((n + (-1)) - 1) (gb ((σ0 180 k = 21 ∧ V (n + (-1) - 1) ≠ 0 ∧ V (n + (-1)) ≠ 0) ∨ (σ0 180 k ≠ 21 ∧ (V (n + (-1) - 1) ≠ 0 ∨ V (n + (-1)) ≠ 0))))) rfl (by omega) (by omega) (by rw [show k + 1 - (200 * l + σ0 178 (10 * l + r)) = k - (200 * l + σ0 178 (10 * l + r)) + 1 by omega]; first | exact (s14 () (by omega) (by assumption)).2.1.symm | (rw [(s15 () (by omega) (by assumption)).2.1]; omega) | (rw [(s16 () (by omega) (by assumption)).2.1]; omega) | exact (sat () (by omega) (hat () (by omega) (by omega) (by omega) (by omega)).1).2.1.symm) (by intro j j0 j1; rw [show k + 1 - (200 * l + σ0 178 (10 * l + r)) = k - (200 * l + σ0 178 (10 * l + r)) + 1 by omega]; first | exact (s14 () (by omega) (by assumption)).2.2 _ (by unfold gb; rfl) j j0 j1 | (rw [show n + (-1) - 1 = n - 2 by omega, show n + (-1) = n - 1 by omega]; first | exact (s15 () (by omega) (by assumption)).2.2 _ (gb_congr (by omega)) j j0 (by omega) | exact (s16 () (by omega) (by assumption)).2.2 _ (gb_congr (by omega)) j j0 (by omega)) | exact (sat () (by omega) (hat () (by omega) (by omega) (by omega) (by omega)).1).2.2 _ rfl j j0 j1)
                  refine w_iload (pc' := 134) (by rfl) dX12_holds_132 rfl ?_
                  refine w_bipush (pc' := 136) (by decide) (by decide) dX12_holds_134 rfl ?_
                  refine w_icmp_ne (pc' := 139) (t := 167) dX12_holds_136 rfl rfl (fun c_136 => ?_) (fun c_136 => ?_)
                  · skip
                    refine w_aload_n (pc' := 168) (i := 0) (by rfl) (by rfl) dX12_holds_167 rfl ?_
                    refine w_getS (pc' := 171) (q := 188) fg_X12_184 kd_133 sf_X12_86 gr_133_86 dX12_holds_168 rfl ?_
                    refine w_iload_n (pc' := 172) (i := 3) (by rfl) (by rfl) dX12_holds_171 rfl ?_
                    refine w_iconst (pc' := 173) (by decide) dX12_holds_172 rfl ?_
                    refine v_isub (pc' := 174) (by have x := hln () (by omega) (by omega); omega) dX12_holds_173 rfl ?_
                    refine w_zald (pc' := 175) kd_188 (by have x := hln () (by omega) (by omega); omega) (by have x := hln () (by omega) (by omega); omega) dX12_holds_174 rfl (fun z_174 => ?_)
                    show Wp _ _ _ _ _ _ [gI (V ((n + (-1)) - 1)), gI ((n + (-1)) - 1), gR 188]
                    refine w_if_ne (pc' := 178) (t := 187) dX12_holds_175 rfl rfl (fun c_175 => ?_) (fun c_175 => ?_)
                    · skip
                      refine w_iconst (pc' := 188) (by decide) dX12_holds_187 rfl ?_
                      refine w_goto (pc' := 192) dX12_holds_188 rfl ?_
                      exact Wp.stI (by first | (exfalso; omega) | exact (gb_t (P := (σ0 180 k = 21 ∧ V (n + (-1) - 1) ≠ 0 ∧ V (n + (-1)) ≠ 0) ∨ (σ0 180 k ≠ 21 ∧ (V (n + (-1) - 1) ≠ 0 ∨ V (n + (-1)) ≠ 0))) (by omega)).symm) hj_192
                    · skip
                      refine w_aload_n (pc' := 179) (i := 0) (by rfl) (by rfl) dX12_holds_178 rfl ?_
                      refine w_getS (pc' := 182) (q := 188) fg_X12_184 kd_133 sf_X12_86 gr_133_86 dX12_holds_179 rfl ?_
                      refine w_iload_n (pc' := 183) (i := 3) (by rfl) (by rfl) dX12_holds_182 rfl ?_
                      refine w_zald (pc' := 184) kd_188 (by have x := hln () (by omega) (by omega); omega) (by have x := hln () (by omega) (by omega); omega) dX12_holds_183 rfl (fun z_183 => ?_)
                      show Wp _ _ _ _ _ _ [gI (V (n + (-1))), gI ((n + (-1)) - 1), gR 188]
                      refine w_if_eq (pc' := 187) (t := 191) dX12_holds_184 rfl rfl (fun c_184 => ?_) (fun c_184 => ?_)
                      · skip
                        refine w_iconst (pc' := 192) (by decide) dX12_holds_191 rfl ?_
                        exact Wp.stI (by first | (exfalso; omega) | exact (gb_f (P := (σ0 180 k = 21 ∧ V (n + (-1) - 1) ≠ 0 ∧ V (n + (-1)) ≠ 0) ∨ (σ0 180 k ≠ 21 ∧ (V (n + (-1) - 1) ≠ 0 ∨ V (n + (-1)) ≠ 0))) (by omega)).symm) hj_192
                      · skip
                        refine w_iconst (pc' := 188) (by decide) dX12_holds_187 rfl ?_
                        refine w_goto (pc' := 192) dX12_holds_188 rfl ?_
                        exact Wp.stI (by first | (exfalso; omega) | exact (gb_t (P := (σ0 180 k = 21 ∧ V (n + (-1) - 1) ≠ 0 ∧ V (n + (-1)) ≠ 0) ∨ (σ0 180 k ≠ 21 ∧ (V (n + (-1) - 1) ≠ 0 ∨ V (n + (-1)) ≠ 0))) (by omega)).symm) hj_192
                  · skip
                    refine w_aload_n (pc' := 140) (i := 0) (by rfl) (by rfl) dX12_holds_139 rfl ?_
                    refine w_getS (pc' := 143) (q := 188) fg_X12_184 kd_133 sf_X12_86 gr_133_86 dX12_holds_140 rfl ?_
                    refine w_iload_n (pc' := 144) (i := 3) (by rfl) (by rfl) dX12_holds_143 rfl ?_
                    refine w_iconst (pc' := 145) (by decide) dX12_holds_144 rfl ?_
                    refine v_isub (pc' := 146) (by have x := hln () (by omega) (by omega); omega) dX12_holds_145 rfl ?_
                    refine w_zald (pc' := 147) kd_188 (by have x := hln () (by omega) (by omega); omega) (by have x := hln () (by omega) (by omega); omega) dX12_holds_146 rfl (fun z_146 => ?_)
                    show Wp _ _ _ _ _ _ [gI (V ((n + (-1)) - 1)), gI ((n + (-1)) - 1), gR 188]
                    refine w_if_eq (pc' := 150) (t := 163) dX12_holds_147 rfl rfl (fun c_147 => ?_) (fun c_147 => ?_)
                    · skip
                      refine w_iconst (pc' := 164) (by decide) dX12_holds_163 rfl ?_
                      refine w_goto (pc' := 192) dX12_holds_164 rfl ?_
                      exact Wp.stI (by first | (exfalso; omega) | exact (gb_f (P := (σ0 180 k = 21 ∧ V (n + (-1) - 1) ≠ 0 ∧ V (n + (-1)) ≠ 0) ∨ (σ0 180 k ≠ 21 ∧ (V (n + (-1) - 1) ≠ 0 ∨ V (n + (-1)) ≠ 0))) (by omega)).symm) hj_192
                    · skip
                      refine w_aload_n (pc' := 151) (i := 0) (by rfl) (by rfl) dX12_holds_150 rfl ?_
                      refine w_getS (pc' := 154) (q := 188) fg_X12_184 kd_133 sf_X12_86 gr_133_86 dX12_holds_151 rfl ?_
                      refine w_iload_n (pc' := 155) (i := 3) (by rfl) (by rfl) dX12_holds_154 rfl ?_
                      refine w_zald (pc' := 156) kd_188 (by have x := hln () (by omega) (by omega); omega) (by have x := hln () (by omega) (by omega); omega) dX12_holds_155 rfl (fun z_155 => ?_)
                      show Wp _ _ _ _ _ _ [gI (V (n + (-1))), gI ((n + (-1)) - 1), gR 188]
                      refine w_if_eq (pc' := 159) (t := 163) dX12_holds_156 rfl rfl (fun c_156 => ?_) (fun c_156 => ?_)
                      · skip
                        refine w_iconst (pc' := 164) (by decide) dX12_holds_163 rfl ?_
                        refine w_goto (pc' := 192) dX12_holds_164 rfl ?_
                        exact Wp.stI (by first | (exfalso; omega) | exact (gb_f (P := (σ0 180 k = 21 ∧ V (n + (-1) - 1) ≠ 0 ∧ V (n + (-1)) ≠ 0) ∨ (σ0 180 k ≠ 21 ∧ (V (n + (-1) - 1) ≠ 0 ∨ V (n + (-1)) ≠ 0))) (by omega)).symm) hj_192
                      · skip
                        refine w_iconst (pc' := 160) (by decide) dX12_holds_159 rfl ?_
                        refine w_goto (pc' := 192) dX12_holds_160 rfl ?_
                        exact Wp.stI (by first | (exfalso; omega) | exact (gb_t (P := (σ0 180 k = 21 ∧ V (n + (-1) - 1) ≠ 0 ∧ V (n + (-1)) ≠ 0) ∨ (σ0 180 k ≠ 21 ∧ (V (n + (-1) - 1) ≠ 0 ∨ V (n + (-1)) ≠ 0))) (by omega)).symm) hj_192
            · skip
              refine w_aload_n (pc' := 82) (i := 0) (by rfl) (by rfl) dX12_holds_81 rfl ?_
              refine w_getS (pc' := 85) (q := 188) fg_X12_184 kd_133 sf_X12_86 gr_133_86 dX12_holds_82 rfl ?_
              refine w_iload_n (pc' := 86) (i := 3) (by rfl) (by rfl) dX12_holds_85 rfl ?_
              refine w_iconst (pc' := 87) (by decide) dX12_holds_86 rfl ?_
              refine v_isub (pc' := 88) (by have x := (s14 () (by omega) (by omega)).1; omega) dX12_holds_87 rfl ?_
              refine w_aload_n (pc' := 89) (i := 0) (by rfl) (by rfl) dX12_holds_88 rfl ?_
              refine w_getS (pc' := 92) (q := 188) fg_X12_184 kd_133 sf_X12_86 gr_133_86 dX12_holds_89 rfl ?_
              refine w_iload_n (pc' := 93) (i := 3) (by rfl) (by rfl) dX12_holds_92 rfl ?_
              refine w_iconst (pc' := 94) (by decide) dX12_holds_93 rfl ?_
              refine v_isub (pc' := 95) (by have x := (s14 () (by omega) (by omega)).1; omega) dX12_holds_94 rfl ?_
              refine w_zald (pc' := 96) kd_188 (by have x := (s14 () (by omega) (by omega)).1; omega) (by have x := (s14 () (by omega) (by omega)).1; omega) dX12_holds_95 rfl (fun z_95 => ?_)
              show Wp _ _ _ _ _ _ [gI (V (n - 1)), gI (n - 1), gR 188]
              have hj_104 : Wp mX12_holds 2 (fun v σ' => v = gI (gb (HM σ0 l r (σ 187) ≠ 0)) ∧ ∃ V, σ' = gUr σ 188 V) (gUr σ 188 V) 104 [gR 133, gI l, gI r, gI n, gI k, gI (σ0 180 k)] [gI (gb (V (n - 1) = 0)), gI (n - 1), gR 188] := by
                refine w_zast (pc' := 105) kd_188 (gb_01 _) (by have x := (s14 () (by omega) (by omega)).1; omega) (by have x := (s14 () (by omega) (by omega)).1; omega) dX12_holds_104 rfl ?_
                refine Wp.heq (σ' := gUr σ 188 (updI V (n - 1) (gb (V (n - 1) = 0)))) gUp_row ?_
                refine w_goto (pc' := 211) dX12_holds_105 rfl ?_
                refine v_iinc (pc' := 214) (x := k) (ls' := [gR 133, gI l, gI r, gI n, gI (k + 1), gI (σ0 180 k)]) (by omega) (by decide) (by rfl) (by rfl) dX12_holds_211 rfl ?_
                refine w_goto (pc' := 43) dX12_holds_214 rfl ?_
                refine Wp.lose (ls' := [gR 133, gI l, gI r, gI n, gI (k + 1), gX 1]) ⟨.inr rfl, ⟨.inr rfl, ⟨.inr rfl, ⟨.inr rfl, ⟨.inr rfl, ⟨.inl rfl, trivial⟩⟩⟩⟩⟩⟩ ?_
                exact ih_43 _ (by omega) (k + 1) n (updI V (n - 1) (gb (V (n - 1) = 0))) rfl (by omega) (by omega) (by rw [show k + 1 - (200 * l + σ0 178 (10 * l + r)) = k - (200 * l + σ0 178 (10 * l + r)) + 1 by omega]; first | exact (s14 () (by omega) (by assumption)).2.1.symm | (rw [(s15 () (by omega) (by assumption)).2.1]; omega) | (rw [(s16 () (by omega) (by assumption)).2.1]; omega) | exact (sat () (by omega) (hat () (by omega) (by omega) (by omega) (by omega)).1).2.1.symm) (by intro j j0 j1; rw [show k + 1 - (200 * l + σ0 178 (10 * l + r)) = k - (200 * l + σ0 178 (10 * l + r)) + 1 by omega]; first | exact (s14 () (by omega) (by assumption)).2.2 _ (by unfold gb; rfl) j j0 j1 | (rw [show n + (-1) - 1 = n - 2 by omega, show n + (-1) = n - 1 by omega]; first | exact (s15 () (by omega) (by assumption)).2.2 _ (gb_congr (by omega)) j j0 (by omega) | exact (s16 () (by omega) (by assumption)).2.2 _ (gb_congr (by omega)) j j0 (by omega)) | exact (sat () (by omega) (hat () (by omega) (by omega) (by omega) (by omega)).1).2.2 _ rfl j j0 j1)
              refine w_if_ne (pc' := 99) (t := 103) dX12_holds_96 rfl rfl (fun c_96 => ?_) (fun c_96 => ?_)
              · skip
                refine w_iconst (pc' := 104) (by decide) dX12_holds_103 rfl ?_
                exact Wp.stI (by first | (exfalso; omega) | exact (gb_f (P := V (n - 1) = 0) (by omega)).symm) hj_104
              · skip
                refine w_iconst (pc' := 100) (by decide) dX12_holds_99 rfl ?_
                refine w_goto (pc' := 104) dX12_holds_100 rfl ?_
                exact Wp.stI (by first | (exfalso; omega) | exact (gb_t (P := V (n - 1) = 0) (by omega)).symm) hj_104
      refine Wp.heq (σ' := gUr σ 188 (σ 188)) gUr_id.symm ?_
      exact hl_43 _ ((200 * l) + (σ0 178 ((10 * l) + r))) 0 (σ 188) rfl (by omega) (by omega) (by rw [Int.sub_self]; rfl) (by intro j a b; omega)
    · skip
      refine w_iconst (pc' := 21) (by decide) dX12_holds_20 rfl ?_
      refine w_zreturn rfl (.inl rfl) dX12_holds_21 ?_
      exact ⟨gbF (by unfold HM; rw [if_pos (by omega)]; omega), σ 188, gUr_id.symm⟩
