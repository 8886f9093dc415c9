/-! chance: class, reference, the call (gen/mod_chw.py) -/
theorem mulB {a b M N : Int} (h0 : 0 ≤ a) (h1 : a ≤ M) (h2 : 0 ≤ b) (h3 : b ≤ N) : 0 ≤ a * b ∧ a * b ≤ M * N := by
  constructor
  · exact Int.mul_nonneg h0 h2
  · have x : a * b ≤ M * b := Int.mul_le_mul_of_nonneg_right h1 h2
    have y : M * b ≤ M * N := Int.mul_le_mul_of_nonneg_left h3 (by omega)
    omega
theorem ways_s {n k i W : Int} (hn : n ≤ 60) (hk : k ≤ n) (h1 : 1 ≤ i) (h2 : i ≤ k) (hW : W = CHO (n - k + (i - 1)) (i - 1)) : (0 ≤ W * (n - k + i) ∧ W * (n - k + i) ≤ 7200000000000000000) ∧ w64 ((W * (n - k + i)).tdiv i) = CHO (n - k + i) i := by
  have b := CHO_in (n := n - k + (i - 1)) (k := i - 1) (by omega)
  rw [← hW] at b
  have m := mulB b.1 b.2 (show 0 ≤ n - k + i by omega) (show n - k + i ≤ 60 by omega)
  refine ⟨⟨m.1, by omega⟩, ?_⟩
  have s := CHO_step (m := n - k) (i := i - 1) (by omega) (by omega)
  rw [show n - k + (i - 1 + 1) = n - k + i by omega, show i - 1 + 1 = i by omega, ← hW] at s
  have c := CHO_in (n := n - k + i) (k := i) (by omega)
  rw [s, Int.mul_tdiv_cancel _ (by omega)]
  exact w64_id ⟨by omega, by omega⟩
theorem tmod64 {g l : Int} (hl : gi64 l) (h0 : l ≠ 0) : w64 (g.tmod l) = g.tmod l ∧ gi64 (g.tmod l) ∧ (g.tmod l).natAbs < l.natAbs := by
  have r := Nat.mod_lt g.natAbs (show 0 < l.natAbs by omega)
  rw [← tmod_abs (a := g) (b := l)] at r
  unfold gi64 at *
  refine ⟨w64_id ⟨by omega, by omega⟩, by omega, r⟩
theorem gi64_abs {y : Int} (h : gi64 y) : y.natAbs ≤ 9223372036854775808 := by
  unfold gi64 at h
  omega
theorem TL_mono {σ : gH} {t a b : Int} (h : ∀ i, tlP σ t a i → tlP σ t b i) : TL σ t a ≤ TL σ t b := sumI_le fun i _ _ => by
  by_cases c : tlP σ t a i
  · rw [if_pos c, if_pos (h i c)]; exact Int.le_refl _
  · rw [if_neg c]; split <;> omega
theorem TL_ord (σ : gH) (t : Int) : 0 ≤ TL σ t 3 ∧ TL σ t 3 ≤ TL σ t 1 ∧ TL σ t 3 ≤ TL σ t 2 ∧ TL σ t 1 ≤ TL σ t 0 ∧ TL σ t 2 ≤ TL σ t 0 := by
  refine ⟨(TL_in σ t 3 _).1, TL_mono fun i h => ?_, TL_mono fun i h => ?_, TL_mono fun i h => ?_, TL_mono fun i h => ?_⟩ <;> (unfold tlP at *; omega)
noncomputable def WTS (σ : gH) (t : Int) : Int := w64 (WYS (TL σ t 0) (TL σ t 1) (TL σ t 2) (TL σ t 3) (TL σ t 1 + 1).toNat)
noncomputable def CHA (σ : gH) (t w : Int) : Int := w64 ((if w = 0 then WTS σ t else CHO (TL σ t 0) (TL σ t 1)).tdiv (eu 200 (WTS σ t) (CHO (TL σ t 0) (TL σ t 1))))
theorem w64_dbl (a b : Int) : w64 (w64 a + w64 b) = w64 (a + b) := by
  rw [w64_add, Int.add_comm, w64_add, Int.add_comm]
theorem CHO_64 {n k : Int} (h : n ≤ 60) : gi64 (CHO n k) := by
  have := CHO_in (n := n) (k := k) h
  unfold gi64
  omega
theorem k_ways (σ : gH) (k n : Int) (hn : n ≤ 60) : Mt mX1_waysToTake 0 [gI k, gI n] σ (rE (gJ (CHO n k)) σ) := by
  refine Mt.walk (ls := [gI k, gI n, gX 1, gX 1, gX 1]) pn_X1 rfl (fun _ _ h => by cases h.1) (Nat.le_of_ble_eq_true rfl) rfl ?_
  refine w_iload_n (pc' := 1) (i := 0) (by rfl) (by rfl) dX1_waysToTake_0 rfl ?_
  refine w_if_lt (pc' := 4) (t := 15) dX1_waysToTake_1 rfl rfl (fun c_1 => ?_) (fun c_1 => ?_)
  · skip
    refine w_lconst (n := 0) (pc' := 16) (by decide) (by decide) dX1_waysToTake_15 rfl ?_
    refine w_lreturn rfl dX1_waysToTake_16 ?_
    first | (exfalso; omega) | exact ⟨by unfold CHO; rw [if_pos (by omega)], rfl⟩
  · skip
    refine w_iload_n (pc' := 5) (i := 0) (by rfl) (by rfl) dX1_waysToTake_4 rfl ?_
    refine w_iload_n (pc' := 6) (i := 1) (by rfl) (by rfl) dX1_waysToTake_5 rfl ?_
    refine w_icmp_gt (pc' := 9) (t := 15) dX1_waysToTake_6 rfl rfl (fun c_6 => ?_) (fun c_6 => ?_)
    · skip
      refine w_lconst (n := 0) (pc' := 16) (by decide) (by decide) dX1_waysToTake_15 rfl ?_
      refine w_lreturn rfl dX1_waysToTake_16 ?_
      first | (exfalso; omega) | exact ⟨by unfold CHO; rw [if_pos (by omega)], rfl⟩
    · skip
      refine w_iload_n (pc' := 10) (i := 1) (by rfl) (by rfl) dX1_waysToTake_9 rfl ?_
      refine w_bipush (pc' := 12) (by decide) (by decide) dX1_waysToTake_10 rfl ?_
      refine w_icmp_le (pc' := 15) (t := 17) dX1_waysToTake_12 rfl rfl (fun c_12 => ?_) (fun c_12 => ?_)
      · skip
        refine w_lconst (n := 1) (pc' := 18) (by decide) (by decide) dX1_waysToTake_17 rfl ?_
        refine w_lstore_n (pc' := 19) (i := 2) (ls' := [gI k, gI n, gJ 1, gX 1, gX 1]) (by rfl) (by decide) (by rfl) dX1_waysToTake_18 rfl ?_
        refine w_iconst (pc' := 20) (by decide) dX1_waysToTake_19 rfl ?_
        refine w_istore (pc' := 22) (ls' := [gI k, gI n, gJ 1, gX 1, gI 1]) (by decide) (by rfl) dX1_waysToTake_20 rfl ?_
        have hl_22 : ∀ (mm : Nat) (i W : Int), (k + 1 - i).toNat = mm → (1 ≤ i) → (i ≤ k + 1) → (W = CHO (n - k + (i - 1)) (i - 1)) → Wp mX1_waysToTake 0 (rE (gJ (CHO n k)) σ) σ 22 [gI k, gI n, gJ W, gX 1, gI i] [] := by
          intro m_22
          induction m_22 using Nat.strongRecOn with
          | _ m_22 ih_22 =>
            intro i W hmeas_22 i0 i1 hW
            have hs := fun h : i ≤ k => ways_s hn (by omega) i0 h hW
            refine w_iload (pc' := 24) (by rfl) dX1_waysToTake_22 rfl ?_
            refine w_iload_n (pc' := 25) (i := 0) (by rfl) (by rfl) dX1_waysToTake_24 rfl ?_
            refine w_icmp_gt (pc' := 28) (t := 48) dX1_waysToTake_25 rfl rfl (fun c_25 => ?_) (fun c_25 => ?_)
            · skip
              refine w_lload_n (pc' := 49) (i := 2) (by rfl) (by rfl) dX1_waysToTake_48 rfl ?_
              refine w_lreturn rfl dX1_waysToTake_49 ?_
              exact ⟨by rw [hW, show i - 1 = k by omega, show n - k + k = n by omega], rfl⟩
            · skip
              refine w_lload_n (pc' := 29) (i := 2) (by rfl) (by rfl) dX1_waysToTake_28 rfl ?_
              refine w_iload_n (pc' := 30) (i := 1) (by rfl) (by rfl) dX1_waysToTake_29 rfl ?_
              refine w_iload_n (pc' := 31) (i := 0) (by rfl) (by rfl) dX1_waysToTake_30 rfl ?_
              refine v_isub (pc' := 32) (by omega) dX1_waysToTake_31 rfl ?_
              refine w_iload (pc' := 34) (by rfl) dX1_waysToTake_32 rfl ?_
              refine v_iadd (pc' := 35) (by omega) dX1_waysToTake_34 rfl ?_
              refine w_i2l (pc' := 36) dX1_waysToTake_35 rfl ?_
              refine v_lmul (pc' := 37) (by have := hs (by omega); omega) dX1_waysToTake_36 rfl ?_
              refine w_iload (pc' := 39) (by rfl) dX1_waysToTake_37 rfl ?_
              refine w_i2l (pc' := 40) dX1_waysToTake_39 rfl ?_
              refine w_ldiv (pc' := 41) (by omega) dX1_waysToTake_40 rfl ?_
              refine w_lstore_n (pc' := 42) (i := 2) (ls' := [gI k, gI n, gJ (w64 ((W * ((n - k) + i)).tdiv i)), gX 1, gI i]) (by rfl) (by decide) (by rfl) dX1_waysToTake_41 rfl ?_
              refine v_iinc (pc' := 45) (x := i) (ls' := [gI k, gI n, gJ (w64 ((W * ((n - k) + i)).tdiv i)), gX 1, gI (i + 1)]) (by omega) (by decide) (by rfl) (by rfl) dX1_waysToTake_42 rfl ?_
              refine w_goto (pc' := 22) dX1_waysToTake_45 rfl ?_
              exact ih_22 _ (by omega) (i + 1) (w64 ((W * ((n - k) + i)).tdiv i)) rfl (by omega) (by omega) (by rw [show i + 1 - 1 = i by omega]; exact (hs (by omega)).2)
        exact hl_22 _ 1 1 rfl (by omega) (by omega) (by rw [show n - k + (1 - 1) = n - k by omega, show (1 : Int) - 1 = 0 by omega, CHO_0 (by omega)])
      · skip
        refine w_lconst (n := 0) (pc' := 16) (by decide) (by decide) dX1_waysToTake_15 rfl ?_
        refine w_lreturn rfl dX1_waysToTake_16 ?_
        first | (exfalso; omega) | exact ⟨by unfold CHO; rw [if_pos (by omega)], rfl⟩
theorem k_gcd (σ : gH) (a b : Int) (hb : gi64 b) : Mt mX1_commonDivisor 0 [gJ a, gJ b] σ (rE (gJ (eu 200 a b)) σ) := by
  refine Mt.walk (ls := [gJ a, gX 1, gJ b, gX 1, gX 1, gX 1, gX 1, gX 1, gX 1, gX 1, gX 1]) pn_X1 rfl (fun _ _ h => by cases h.1) (Nat.le_of_ble_eq_true rfl) rfl ?_
  refine w_lload_n (pc' := 1) (i := 0) (by rfl) (by rfl) dX1_commonDivisor_0 rfl ?_
  refine w_lstore (pc' := 3) (ls' := [gJ a, gX 1, gJ b, gX 1, gJ a, gX 1, gX 1, gX 1, gX 1, gX 1, gX 1]) (by decide) (by rfl) dX1_commonDivisor_1 rfl ?_
  refine w_lload_n (pc' := 4) (i := 2) (by rfl) (by rfl) dX1_commonDivisor_3 rfl ?_
  refine w_lstore (pc' := 6) (ls' := [gJ a, gX 1, gJ b, gX 1, gJ a, gX 1, gJ b, gX 1, gX 1, gX 1, gX 1]) (by decide) (by rfl) dX1_commonDivisor_4 rfl ?_
  refine w_iconst (pc' := 7) (by decide) dX1_commonDivisor_6 rfl ?_
  refine w_istore (pc' := 9) (ls' := [gJ a, gX 1, gJ b, gX 1, gJ a, gX 1, gJ b, gX 1, gI 0, gX 1, gX 1]) (by decide) (by rfl) dX1_commonDivisor_7 rfl ?_
  have hl_9 : ∀ (mm : Nat) (i g l : Int), (200 - i).toNat = mm → (0 ≤ i) → (i ≤ 200) → (eu (200 - i).toNat g l = eu 200 a b) → (gi64 l) → Wp mX1_commonDivisor 0 (rE (gJ (eu 200 a b)) σ) σ 9 [gJ a, gX 1, gJ b, gX 1, gJ g, gX 1, gJ l, gX 1, gI i, gX 1, gX 1] [] := by
    intro m_9
    induction m_9 using Nat.strongRecOn with
    | _ m_9 ih_9 =>
      intro i g l hmeas_9 i0 i1 hE hl
      have hg := gCmp_0 (x := l)
      have tm := fun h : l ≠ 0 => tmod64 (g := g) hl h
      refine w_iload (pc' := 11) (by rfl) dX1_commonDivisor_9 rfl ?_
      refine w_sipush (pc' := 14) (by decide) (by decide) dX1_commonDivisor_11 rfl ?_
      refine w_icmp_ge (pc' := 17) (t := 45) dX1_commonDivisor_14 rfl rfl (fun c_14 => ?_) (fun c_14 => ?_)
      · skip
        refine w_lload (pc' := 47) (by rfl) dX1_commonDivisor_45 rfl ?_
        refine w_lreturn rfl dX1_commonDivisor_47 ?_
        first | exact ⟨by rw [← hE, eu_z (by omega)], rfl⟩ | exact ⟨by rw [← hE, show (200 - i).toNat = 0 by omega]; rfl, rfl⟩
      · skip
        refine w_lload (pc' := 19) (by rfl) dX1_commonDivisor_17 rfl ?_
        refine w_lconst (n := 0) (pc' := 20) (by decide) (by decide) dX1_commonDivisor_19 rfl ?_
        refine w_lcmp (pc' := 21) dX1_commonDivisor_20 rfl ?_
        refine w_if_eq (pc' := 24) (t := 45) dX1_commonDivisor_21 rfl rfl (fun c_21 => ?_) (fun c_21 => ?_)
        · skip
          refine w_lload (pc' := 47) (by rfl) dX1_commonDivisor_45 rfl ?_
          refine w_lreturn rfl dX1_commonDivisor_47 ?_
          first | exact ⟨by rw [← hE, eu_z (by omega)], rfl⟩ | exact ⟨by rw [← hE, show (200 - i).toNat = 0 by omega]; rfl, rfl⟩
        · skip
          refine w_lload (pc' := 26) (by rfl) dX1_commonDivisor_24 rfl ?_
          refine w_lload (pc' := 28) (by rfl) dX1_commonDivisor_26 rfl ?_
          refine w_lrem (pc' := 29) (by omega) dX1_commonDivisor_28 rfl ?_
          refine w_lstore (pc' := 31) (ls' := [gJ a, gX 1, gJ b, gX 1, gJ g, gX 1, gJ l, gX 1, gI i, gJ (w64 (g.tmod l)), gX 1]) (by decide) (by rfl) dX1_commonDivisor_29 rfl ?_
          refine w_lload (pc' := 33) (by rfl) dX1_commonDivisor_31 rfl ?_
          refine w_lstore (pc' := 35) (ls' := [gJ a, gX 1, gJ b, gX 1, gJ l, gX 1, gJ l, gX 1, gI i, gJ (w64 (g.tmod l)), gX 1]) (by decide) (by rfl) dX1_commonDivisor_33 rfl ?_
          refine w_lload (pc' := 37) (by rfl) dX1_commonDivisor_35 rfl ?_
          refine w_lstore (pc' := 39) (ls' := [gJ a, gX 1, gJ b, gX 1, gJ l, gX 1, gJ (w64 (g.tmod l)), gX 1, gI i, gJ (w64 (g.tmod l)), gX 1]) (by decide) (by rfl) dX1_commonDivisor_37 rfl ?_
          refine v_iinc (pc' := 42) (x := i) (ls' := [gJ a, gX 1, gJ b, gX 1, gJ l, gX 1, gJ (w64 (g.tmod l)), gX 1, gI (i + 1), gJ (w64 (g.tmod l)), gX 1]) (by omega) (by decide) (by rfl) (by rfl) dX1_commonDivisor_39 rfl ?_
          refine w_goto (pc' := 9) dX1_commonDivisor_42 rfl ?_
          refine Wp.lose (ls' := [gJ a, gX 1, gJ b, gX 1, gJ l, gX 1, gJ (w64 (g.tmod l)), gX 1, gI (i + 1), gX 1, gX 1]) ⟨.inr rfl, ⟨.inr rfl, ⟨.inr rfl, ⟨.inr rfl, ⟨.inr rfl, ⟨.inr rfl, ⟨.inr rfl, ⟨.inr rfl, ⟨.inr rfl, ⟨.inl rfl, ⟨.inr rfl, trivial⟩⟩⟩⟩⟩⟩⟩⟩⟩⟩⟩ ?_
          exact ih_9 _ (by omega) (i + 1) l (w64 (g.tmod l)) rfl (by omega) (by omega) (by have l0 : l ≠ 0 := (by omega); rw [(tm l0).1, ← hE, show (200 - i).toNat = (200 - (i + 1)).toNat + 1 by omega, eu_s l0]) (by have l0 : l ≠ 0 := (by omega); rw [(tm l0).1]; exact (tm l0).2.1)
  exact hl_9 _ 0 a b rfl (by omega) (by omega) (by rfl) (by exact hb)
set_option maxHeartbeats 4000000 in
theorem k_chanceOf {σ0 σ : gH} (hI : Inv σ0) (hq : QC σ0 σ) (t w : Int) (hv : TL σ0 t 0 ≤ 60) (hw : w = 0 ∨ w = 1) : Mt mX1_chanceOf 6 [gR 125, gI t, gI w] σ (fun v σ' => v = gJ (CHA σ0 t w) ∧ QC σ0 σ') := by
  refine Mt.walk (ls := [gR 125, gI t, gI w, gX 1, gX 1, gX 1, gX 1, gX 1, gX 1, gX 1, gX 1, gX 1]) pn_X1 rfl (fun _ _ h => by cases h.1) (Nat.le_of_ble_eq_true rfl) rfl ?_
  have ht := TL_ord σ0 t
  refine w_aload_n (pc' := 1) (i := 0) (by rfl) (by rfl) dX1_chanceOf_0 rfl ?_
  refine w_iload_n (pc' := 2) (i := 1) (by rfl) (by rfl) dX1_chanceOf_1 rfl ?_
  refine w_iconst (pc' := 3) (by decide) dX1_chanceOf_2 rfl ?_
  refine w_callV (pc' := 6) (d' := 5) (av := [gI t, gI 0]) mi_mX1_tallyOf lk_X1_69 rfl ci_X1 kd_125 rfl (Nat.le_of_ble_eq_true rfl) (Nat.le_of_ble_eq_true rfl) dX1_chanceOf_3 rfl (k_tallyOf hI hq t 0 (by omega)) (fun v_3 σ3 q_3 => ?_)
  obtain ⟨rfl, hq_3, hk_3⟩ := q_3
  show Wp _ _ _ _ _ _ [gI (TL σ0 t 0)]
  refine w_istore_n (pc' := 7) (i := 3) (ls' := [gR 125, gI t, gI w, gI (TL σ0 t 0), gX 1, gX 1, gX 1, gX 1, gX 1, gX 1, gX 1, gX 1]) (by rfl) (by decide) (by rfl) dX1_chanceOf_6 rfl ?_
  refine w_aload_n (pc' := 8) (i := 0) (by rfl) (by rfl) dX1_chanceOf_7 rfl ?_
  refine w_iload_n (pc' := 9) (i := 1) (by rfl) (by rfl) dX1_chanceOf_8 rfl ?_
  refine w_iconst (pc' := 10) (by decide) dX1_chanceOf_9 rfl ?_
  refine w_callV (pc' := 13) (d' := 5) (av := [gI t, gI 1]) mi_mX1_tallyOf lk_X1_69 rfl ci_X1 kd_125 rfl (Nat.le_of_ble_eq_true rfl) (Nat.le_of_ble_eq_true rfl) dX1_chanceOf_10 rfl (k_tallyOf hI hq_3 t 1 (by omega)) (fun v_10 σ10 q_10 => ?_)
  obtain ⟨rfl, hq_10, hk_10⟩ := q_10
  show Wp _ _ _ _ _ _ [gI (TL σ0 t 1)]
  refine w_istore (pc' := 15) (ls' := [gR 125, gI t, gI w, gI (TL σ0 t 0), gI (TL σ0 t 1), gX 1, gX 1, gX 1, gX 1, gX 1, gX 1, gX 1]) (by decide) (by rfl) dX1_chanceOf_13 rfl ?_
  refine w_aload_n (pc' := 16) (i := 0) (by rfl) (by rfl) dX1_chanceOf_15 rfl ?_
  refine w_iload_n (pc' := 17) (i := 1) (by rfl) (by rfl) dX1_chanceOf_16 rfl ?_
  refine w_iconst (pc' := 18) (by decide) dX1_chanceOf_17 rfl ?_
  refine w_callV (pc' := 21) (d' := 5) (av := [gI t, gI 2]) mi_mX1_tallyOf lk_X1_69 rfl ci_X1 kd_125 rfl (Nat.le_of_ble_eq_true rfl) (Nat.le_of_ble_eq_true rfl) dX1_chanceOf_18 rfl (k_tallyOf hI hq_10 t 2 (by omega)) (fun v_18 σ18 q_18 => ?_)
  obtain ⟨rfl, hq_18, hk_18⟩ := q_18
  show Wp _ _ _ _ _ _ [gI (TL σ0 t 2)]
  refine w_istore (pc' := 23) (ls' := [gR 125, gI t, gI w, gI (TL σ0 t 0), gI (TL σ0 t 1), gI (TL σ0 t 2), gX 1, gX 1, gX 1, gX 1, gX 1, gX 1]) (by decide) (by rfl) dX1_chanceOf_21 rfl ?_
  refine w_lconst (n := 0) (pc' := 24) (by decide) (by decide) dX1_chanceOf_23 rfl ?_
  refine w_lstore (pc' := 26) (ls' := [gR 125, gI t, gI w, gI (TL σ0 t 0), gI (TL σ0 t 1), gI (TL σ0 t 2), gJ 0, gX 1, gX 1, gX 1, gX 1, gX 1]) (by decide) (by rfl) dX1_chanceOf_24 rfl ?_
  refine w_aload_n (pc' := 27) (i := 0) (by rfl) (by rfl) dX1_chanceOf_26 rfl ?_
  refine w_iload_n (pc' := 28) (i := 1) (by rfl) (by rfl) dX1_chanceOf_27 rfl ?_
  refine w_iconst (pc' := 29) (by decide) dX1_chanceOf_28 rfl ?_
  refine w_callV (pc' := 32) (d' := 5) (av := [gI t, gI 3]) mi_mX1_tallyOf lk_X1_69 rfl ci_X1 kd_125 rfl (Nat.le_of_ble_eq_true rfl) (Nat.le_of_ble_eq_true rfl) dX1_chanceOf_29 rfl (k_tallyOf hI hq_18 t 3 (by omega)) (fun v_29 σ29 q_29 => ?_)
  obtain ⟨rfl, hq_29, hk_29⟩ := q_29
  show Wp _ _ _ _ _ _ [gI (TL σ0 t 3)]
  refine w_istore (pc' := 34) (ls' := [gR 125, gI t, gI w, gI (TL σ0 t 0), gI (TL σ0 t 1), gI (TL σ0 t 2), gJ 0, gX 1, gI (TL σ0 t 3), gX 1, gX 1, gX 1]) (by decide) (by rfl) dX1_chanceOf_32 rfl ?_
  have hl_34 : ∀ (mm : Nat) (i W : Int), ((TL σ0 t 1) + 1 - i).toNat = mm → ((TL σ0 t 3) ≤ i) → (i ≤ (TL σ0 t 1) + 1) → (i ≤ (TL σ0 t 2) + 1) → (W = w64 (WYS (TL σ0 t 0) (TL σ0 t 1) (TL σ0 t 2) (TL σ0 t 3) (i).toNat)) → Wp mX1_chanceOf 6 (fun v σ' => v = gJ (CHA σ0 t w) ∧ QC σ0 σ') σ29 34 [gR 125, gI t, gI w, gI (TL σ0 t 0), gI (TL σ0 t 1), gI (TL σ0 t 2), gJ W, gX 1, gI i, gX 1, gX 1, gX 1] [] := by
    intro m_34
    induction m_34 using Nat.strongRecOn with
    | _ m_34 ih_34 =>
      intro i W hmeas_34 i0 i1 i2 hW
      have es := WYS_s (v := (TL σ0 t 0)) (d := (TL σ0 t 1)) (w := (TL σ0 t 2)) (l := (TL σ0 t 3)) (i := i) (by omega)
      refine w_iload (pc' := 36) (by rfl) dX1_chanceOf_34 rfl ?_
      have hj_79 : W = WTS σ0 t → Wp mX1_chanceOf 6 (fun v σ' => v = gJ (CHA σ0 t w) ∧ QC σ0 σ') σ29 79 [gR 125, gI t, gI w, gI (TL σ0 t 0), gI (TL σ0 t 1), gI (TL σ0 t 2), gJ W, gX 1, gI i, gX 1, gX 1, gX 1] [] := by
        intro hWT
        refine w_iload (pc' := 81) (by rfl) dX1_chanceOf_79 rfl ?_
        refine w_iload_n (pc' := 82) (i := 3) (by rfl) (by rfl) dX1_chanceOf_81 rfl ?_
        refine v_callSE (pc' := 85) (st' := [gJ (CHO (TL σ0 t 0) (TL σ0 t 1))]) (d' := 0) (av := [gI (TL σ0 t 1), gI (TL σ0 t 0)]) ms_mX1_waysToTake st_mX1_waysToTake lk_X1_72 rfl rfl (Nat.le_of_ble_eq_true rfl) (Nat.le_of_ble_eq_true rfl) dX1_chanceOf_82 rfl rfl (k_ways σ29 (TL σ0 t 1) (TL σ0 t 0) (by omega)) ?_
        have hpos := CHO_pos (n := (TL σ0 t 0)) (k := (TL σ0 t 1)) (by omega) (by omega)
        have hne := eu_ne 200 (euG_of (x := W) (y := CHO (TL σ0 t 0) (TL σ0 t 1)) (gi64_abs (CHO_64 hv))) (Or.inr (by omega))
        have hg := gCmp_0 (x := eu 200 W (CHO (TL σ0 t 0) (TL σ0 t 1)))
        refine w_lstore (pc' := 87) (ls' := [gR 125, gI t, gI w, gI (TL σ0 t 0), gI (TL σ0 t 1), gI (TL σ0 t 2), gJ W, gX 1, gJ (CHO (TL σ0 t 0) (TL σ0 t 1)), gX 1, gX 1, gX 1]) (by decide) (by rfl) dX1_chanceOf_85 rfl ?_
        refine w_lload (pc' := 89) (by rfl) dX1_chanceOf_87 rfl ?_
        refine w_lload (pc' := 91) (by rfl) dX1_chanceOf_89 rfl ?_
        refine v_callSE (pc' := 94) (st' := [gJ (eu 200 W (CHO (TL σ0 t 0) (TL σ0 t 1)))]) (d' := 0) (av := [gJ W, gJ (CHO (TL σ0 t 0) (TL σ0 t 1))]) ms_mX1_commonDivisor st_mX1_commonDivisor lk_X1_76 rfl rfl (Nat.le_of_ble_eq_true rfl) (Nat.le_of_ble_eq_true rfl) dX1_chanceOf_91 rfl rfl (k_gcd σ29 W (CHO (TL σ0 t 0) (TL σ0 t 1)) (CHO_64 (by omega))) ?_
        refine w_lstore (pc' := 96) (ls' := [gR 125, gI t, gI w, gI (TL σ0 t 0), gI (TL σ0 t 1), gI (TL σ0 t 2), gJ W, gX 1, gJ (CHO (TL σ0 t 0) (TL σ0 t 1)), gX 1, gJ (eu 200 W (CHO (TL σ0 t 0) (TL σ0 t 1))), gX 1]) (by decide) (by rfl) dX1_chanceOf_94 rfl ?_
        refine w_lload (pc' := 98) (by rfl) dX1_chanceOf_96 rfl ?_
        refine w_lconst (n := 0) (pc' := 99) (by decide) (by decide) dX1_chanceOf_98 rfl ?_
        refine w_lcmp (pc' := 100) dX1_chanceOf_99 rfl ?_
        refine w_if_ne (pc' := 103) (t := 106) dX1_chanceOf_100 rfl rfl (fun c_100 => ?_) (fun c_100 => ?_)
        · skip
          refine w_iload_n (pc' := 107) (i := 2) (by rfl) (by rfl) dX1_chanceOf_106 rfl ?_
          refine w_if_ne (pc' := 110) (t := 115) dX1_chanceOf_107 rfl rfl (fun c_107 => ?_) (fun c_107 => ?_)
          · skip
            refine w_lload (pc' := 117) (by rfl) dX1_chanceOf_115 rfl ?_
            refine w_lload (pc' := 119) (by rfl) dX1_chanceOf_117 rfl ?_
            refine w_ldiv (pc' := 120) (by omega) dX1_chanceOf_119 rfl ?_
            refine w_lreturn rfl dX1_chanceOf_120 ?_
            first | (exfalso; omega) | exact ⟨by unfold CHA; rw [if_pos (by omega), hWT], hq_29⟩ | exact ⟨by unfold CHA; rw [if_neg (by omega), hWT], hq_29⟩
          · skip
            refine w_lload (pc' := 112) (by rfl) dX1_chanceOf_110 rfl ?_
            refine w_goto (pc' := 117) dX1_chanceOf_112 rfl ?_
            refine w_lload (pc' := 119) (by rfl) dX1_chanceOf_117 rfl ?_
            refine w_ldiv (pc' := 120) (by omega) dX1_chanceOf_119 rfl ?_
            refine w_lreturn rfl dX1_chanceOf_120 ?_
            first | (exfalso; omega) | exact ⟨by unfold CHA; rw [if_pos (by omega), hWT], hq_29⟩ | exact ⟨by unfold CHA; rw [if_neg (by omega), hWT], hq_29⟩
        · skip
          refine w_iload_n (pc' := 104) (i := 2) (by rfl) (by rfl) dX1_chanceOf_103 rfl ?_
          refine w_i2l (pc' := 105) dX1_chanceOf_104 rfl ?_
          refine w_lreturn rfl dX1_chanceOf_105 ?_
          exfalso; omega
      refine w_iload (pc' := 38) (by rfl) dX1_chanceOf_36 rfl ?_
      refine w_icmp_gt (pc' := 41) (t := 79) dX1_chanceOf_38 rfl rfl (fun c_38 => ?_) (fun c_38 => ?_)
      · skip
        exact hj_79 (by rw [hW]; unfold WTS; first | rw [show (TL σ0 t 1) + 1 = i by omega] | rw [WYS_end (by omega) (by omega) i1])
      · skip
        refine w_iload (pc' := 43) (by rfl) dX1_chanceOf_41 rfl ?_
        refine w_iload (pc' := 45) (by rfl) dX1_chanceOf_43 rfl ?_
        refine w_icmp_gt (pc' := 48) (t := 79) dX1_chanceOf_45 rfl rfl (fun c_45 => ?_) (fun c_45 => ?_)
        · skip
          exact hj_79 (by rw [hW]; unfold WTS; first | rw [show (TL σ0 t 1) + 1 = i by omega] | rw [WYS_end (by omega) (by omega) i1])
        · skip
          refine w_lload (pc' := 50) (by rfl) dX1_chanceOf_48 rfl ?_
          refine w_iload (pc' := 52) (by rfl) dX1_chanceOf_50 rfl ?_
          refine w_iload (pc' := 54) (by rfl) dX1_chanceOf_52 rfl ?_
          refine v_callSE (pc' := 57) (st' := [gJ (CHO (TL σ0 t 2) i), gJ W]) (d' := 0) (av := [gI i, gI (TL σ0 t 2)]) ms_mX1_waysToTake st_mX1_waysToTake lk_X1_72 rfl rfl (Nat.le_of_ble_eq_true rfl) (Nat.le_of_ble_eq_true rfl) dX1_chanceOf_54 rfl rfl (k_ways σ29 i (TL σ0 t 2) (by omega)) ?_
          refine w_iload (pc' := 59) (by rfl) dX1_chanceOf_57 rfl ?_
          refine w_iload (pc' := 61) (by rfl) dX1_chanceOf_59 rfl ?_
          refine v_isub (pc' := 62) (by omega) dX1_chanceOf_61 rfl ?_
          refine w_iload_n (pc' := 63) (i := 3) (by rfl) (by rfl) dX1_chanceOf_62 rfl ?_
          refine w_iload (pc' := 65) (by rfl) dX1_chanceOf_63 rfl ?_
          refine v_isub (pc' := 66) (by omega) dX1_chanceOf_65 rfl ?_
          refine v_callSE (pc' := 69) (st' := [gJ (CHO ((TL σ0 t 0) - (TL σ0 t 2)) ((TL σ0 t 1) - i)), gJ (CHO (TL σ0 t 2) i), gJ W]) (d' := 0) (av := [gI ((TL σ0 t 1) - i), gI ((TL σ0 t 0) - (TL σ0 t 2))]) ms_mX1_waysToTake st_mX1_waysToTake lk_X1_72 rfl rfl (Nat.le_of_ble_eq_true rfl) (Nat.le_of_ble_eq_true rfl) dX1_chanceOf_66 rfl rfl (k_ways σ29 ((TL σ0 t 1) - i) ((TL σ0 t 0) - (TL σ0 t 2)) (by omega)) ?_
          refine w_lmul (pc' := 70) dX1_chanceOf_69 rfl ?_
          refine w_ladd (pc' := 71) dX1_chanceOf_70 rfl ?_
          refine w_lstore (pc' := 73) (ls' := [gR 125, gI t, gI w, gI (TL σ0 t 0), gI (TL σ0 t 1), gI (TL σ0 t 2), gJ (w64 (W + (w64 ((CHO (TL σ0 t 2) i) * (CHO ((TL σ0 t 0) - (TL σ0 t 2)) ((TL σ0 t 1) - i)))))), gX 1, gI i, gX 1, gX 1, gX 1]) (by decide) (by rfl) dX1_chanceOf_71 rfl ?_
          refine v_iinc (pc' := 76) (x := i) (ls' := [gR 125, gI t, gI w, gI (TL σ0 t 0), gI (TL σ0 t 1), gI (TL σ0 t 2), gJ (w64 (W + (w64 ((CHO (TL σ0 t 2) i) * (CHO ((TL σ0 t 0) - (TL σ0 t 2)) ((TL σ0 t 1) - i)))))), gX 1, gI (i + 1), gX 1, gX 1, gX 1]) (by omega) (by decide) (by rfl) (by rfl) dX1_chanceOf_73 rfl ?_
          refine w_goto (pc' := 34) dX1_chanceOf_76 rfl ?_
          exact ih_34 _ (by omega) (i + 1) (w64 (W + (w64 ((CHO (TL σ0 t 2) i) * (CHO ((TL σ0 t 0) - (TL σ0 t 2)) ((TL σ0 t 1) - i)))))) rfl (by omega) (by omega) (by omega) (by rw [es, show wyT _ _ _ _ i = _ from if_pos i0, hW, w64_dbl])
  exact hl_34 _ (TL σ0 t 3) 0 rfl (by omega) (by omega) (by omega) (by rw [WYS_0]; rfl)
theorem q_choose (σ : gH) (n k : Int) (hn : 0 ≤ n ∧ n ≤ 60) : Mt mX12_choose 0 [gR 133, gI n, gI k] σ (fun v σ' => v = gJ (CHO n k) ∧ ∃ R, σ' = gUr σ 207 R) := by
  refine Mt.walk (ls := [gR 133, gI n, gI k, gX 1, gX 1]) pn_X12 rfl (fun _ _ h => by cases h.1) (Nat.le_of_ble_eq_true rfl) rfl ?_
  refine w_iload_n (pc' := 1) (i := 2) (by rfl) (by rfl) dX12_choose_0 rfl ?_
  refine w_if_lt (pc' := 4) (t := 9) dX12_choose_1 rfl rfl (fun c_1 => ?_) (fun c_1 => ?_)
  · skip
    refine w_lconst (n := 0) (pc' := 10) (by decide) (by decide) dX12_choose_9 rfl ?_
    refine w_lreturn rfl dX12_choose_10 ?_
    first | (exfalso; omega) | exact ⟨by rw [show CHO n k = 0 from if_pos (by omega)], σ 207, gUr_id.symm⟩
  · skip
    refine w_iload_n (pc' := 5) (i := 2) (by rfl) (by rfl) dX12_choose_4 rfl ?_
    refine w_iload_n (pc' := 6) (i := 1) (by rfl) (by rfl) dX12_choose_5 rfl ?_
    refine w_icmp_le (pc' := 9) (t := 11) dX12_choose_6 rfl rfl (fun c_6 => ?_) (fun c_6 => ?_)
    · skip
      refine w_iconst (pc' := 12) (by decide) dX12_choose_11 rfl ?_
      refine w_istore_n (pc' := 13) (i := 3) (ls' := [gR 133, gI n, gI k, gI 0, gX 1]) (by rfl) (by decide) (by rfl) dX12_choose_12 rfl ?_
      have hl_13 : ∀ (mm : Nat) (i : Int) (R : Int → Int), (n + 1 - i).toNat = mm → (0 ≤ i) → (i ≤ n + 1) → (∀ j, 0 ≤ j → j < i → R j = 0) → Wp mX12_choose 0 (fun v σ' => v = gJ (CHO n k) ∧ ∃ R, σ' = gUr σ 207 R) (gUr σ 207 R) 13 [gR 133, gI n, gI k, gI i, gX 1] [] := by
        intro m_13
        induction m_13 using Nat.strongRecOn with
        | _ m_13 ih_13 =>
          intro i R hmeas_13 i0 i1 hR
          refine w_iload_n (pc' := 14) (i := 3) (by rfl) (by rfl) dX12_choose_13 rfl ?_
          refine w_iload_n (pc' := 15) (i := 1) (by rfl) (by rfl) dX12_choose_14 rfl ?_
          refine w_icmp_gt (pc' := 18) (t := 31) dX12_choose_15 rfl rfl (fun c_15 => ?_) (fun c_15 => ?_)
          · skip
            refine w_aload_n (pc' := 32) (i := 0) (by rfl) (by rfl) dX12_choose_31 rfl ?_
            refine w_getS (pc' := 35) (q := 207) fg_X12_241 kd_133 sf_X12_115 gr_133_115 dX12_choose_32 rfl ?_
            refine w_iconst (pc' := 36) (by decide) dX12_choose_35 rfl ?_
            refine w_lconst (n := 1) (pc' := 37) (by decide) (by decide) dX12_choose_36 rfl ?_
            refine w_last (pc' := 38) kd_207 (by omega) (by omega) dX12_choose_37 rfl ?_
            refine Wp.heq (σ' := gUr σ 207 (updI R 0 1)) gUp_row ?_
            refine w_iconst (pc' := 39) (by decide) dX12_choose_38 rfl ?_
            refine w_istore_n (pc' := 40) (i := 3) (ls' := [gR 133, gI n, gI k, gI 1, gX 1]) (by rfl) (by decide) (by rfl) dX12_choose_39 rfl ?_
            have hl_40 : ∀ (mm : Nat) (i : Int) (R2 : Int → Int), (n + 1 - i).toNat = mm → (1 ≤ i) → (i ≤ n + 1) → (∀ j, 0 ≤ j → j ≤ n → R2 j = CHO (i - 1) j) → Wp mX12_choose 0 (fun v σ' => v = gJ (CHO n k) ∧ ∃ R, σ' = gUr σ 207 R) (gUr σ 207 R2) 40 [gR 133, gI n, gI k, gI i, gX 1] [] := by
              intro m_40
              induction m_40 using Nat.strongRecOn with
              | _ m_40 ih_40 =>
                intro i R2 hmeas_40 j0 j1 hR2
                refine w_iload_n (pc' := 41) (i := 3) (by rfl) (by rfl) dX12_choose_40 rfl ?_
                refine w_iload_n (pc' := 42) (i := 1) (by rfl) (by rfl) dX12_choose_41 rfl ?_
                refine w_icmp_gt (pc' := 45) (t := 84) dX12_choose_42 rfl rfl (fun c_42 => ?_) (fun c_42 => ?_)
                · skip
                  refine w_aload_n (pc' := 85) (i := 0) (by rfl) (by rfl) dX12_choose_84 rfl ?_
                  refine w_getS (pc' := 88) (q := 207) fg_X12_241 kd_133 sf_X12_115 gr_133_115 dX12_choose_85 rfl ?_
                  refine w_iload_n (pc' := 89) (i := 2) (by rfl) (by rfl) dX12_choose_88 rfl ?_
                  refine w_lald (pc' := 90) kd_207 (by omega) (by omega) dX12_choose_89 rfl ?_
                  show Wp _ _ _ _ _ _ [gJ (R2 k)]
                  refine w_lreturn rfl dX12_choose_90 ?_
                  exact ⟨by rw [hR2 k (by omega) (by omega), show i - 1 = n by omega], R2, rfl⟩
                · skip
                  refine w_iload_n (pc' := 46) (i := 3) (by rfl) (by rfl) dX12_choose_45 rfl ?_
                  refine w_istore (pc' := 48) (ls' := [gR 133, gI n, gI k, gI i, gI i]) (by decide) (by rfl) dX12_choose_46 rfl ?_
                  have hl_48 : ∀ (mm : Nat) (j : Int) (R3 : Int → Int), j.toNat = mm → (0 ≤ j) → (j ≤ i) → (∀ u, 0 ≤ u → u ≤ n → (j < u → R3 u = CHO i u) ∧ (u ≤ j → R3 u = CHO (i - 1) u)) → Wp mX12_choose 0 (fun v σ' => v = gJ (CHO n k) ∧ ∃ R, σ' = gUr σ 207 R) (gUr σ 207 R3) 48 [gR 133, gI n, gI k, gI i, gI j] [] := by
                    intro m_48
                    induction m_48 using Nat.strongRecOn with
                    | _ m_48 ih_48 =>
                      intro j R3 hmeas_48 jj0 jj1 hR3
                      have hp := fun h : 0 < j => CHO_p (n := i - 1) (k := j) (by omega) (by omega)
                      have ha := fun h : 0 < j => (hR3 j jj0 (by omega)).2 (by omega)
                      have hb := fun h : 0 < j => (hR3 (j - 1) (by omega) (by omega)).2 (by omega)
                      have ca := CHO_in (n := i - 1) (k := j) (by omega)
                      have cb := CHO_in (n := i - 1) (k := j - 1) (by omega)
                      refine w_iload (pc' := 50) (by rfl) dX12_choose_48 rfl ?_
                      refine w_if_le (pc' := 53) (t := 78) dX12_choose_50 rfl rfl (fun c_50 => ?_) (fun c_50 => ?_)
                      · skip
                        refine v_iinc (pc' := 81) (x := i) (ls' := [gR 133, gI n, gI k, gI (i + 1), gI j]) (by omega) (by decide) (by rfl) (by rfl) dX12_choose_78 rfl ?_
                        refine w_goto (pc' := 40) dX12_choose_81 rfl ?_
                        refine Wp.lose (ls' := [gR 133, gI n, gI k, gI (i + 1), gX 1]) ⟨.inr rfl, ⟨.inr rfl, ⟨.inr rfl, ⟨.inr rfl, ⟨.inl rfl, trivial⟩⟩⟩⟩⟩ ?_
                        exact ih_40 _ (by omega) (i + 1) R3 rfl (by omega) (by omega) (by intro u a b; rw [show i + 1 - 1 = i by omega]; by_cases e : u = 0; (rw [(hR3 u a b).2 (by omega), e, CHO_0 (by omega), CHO_0 (by omega)]); exact (hR3 u a b).1 (by omega))
                      · skip
                        refine w_aload_n (pc' := 54) (i := 0) (by rfl) (by rfl) dX12_choose_53 rfl ?_
                        refine w_getS (pc' := 57) (q := 207) fg_X12_241 kd_133 sf_X12_115 gr_133_115 dX12_choose_54 rfl ?_
                        refine w_iload (pc' := 59) (by rfl) dX12_choose_57 rfl ?_
                        refine w_dup2 (pc' := 60) dX12_choose_59 rfl ?_
                        refine w_lald (pc' := 61) kd_207 (by omega) (by omega) dX12_choose_60 rfl ?_
                        show Wp _ _ _ _ _ _ [gJ (R3 j), gI j, gR 207]
                        refine w_aload_n (pc' := 62) (i := 0) (by rfl) (by rfl) dX12_choose_61 rfl ?_
                        refine w_getS (pc' := 65) (q := 207) fg_X12_241 kd_133 sf_X12_115 gr_133_115 dX12_choose_62 rfl ?_
                        refine w_iload (pc' := 67) (by rfl) dX12_choose_65 rfl ?_
                        refine w_iconst (pc' := 68) (by decide) dX12_choose_67 rfl ?_
                        refine v_isub (pc' := 69) (by omega) dX12_choose_68 rfl ?_
                        refine w_lald (pc' := 70) kd_207 (by omega) (by omega) dX12_choose_69 rfl ?_
                        show Wp _ _ _ _ _ _ [gJ (R3 (j - 1)), gJ (R3 j), gI j, gR 207]
                        refine v_ladd (pc' := 71) (by have := ha (by omega); have := hb (by omega); omega) dX12_choose_70 rfl ?_
                        refine w_last (pc' := 72) kd_207 (by omega) (by omega) dX12_choose_71 rfl ?_
                        refine Wp.heq (σ' := gUr σ 207 (updI R3 j ((R3 j) + (R3 (j - 1))))) gUp_row ?_
                        refine v_iinc (pc' := 75) (x := j) (ls' := [gR 133, gI n, gI k, gI i, gI (j + (-1))]) (by omega) (by decide) (by rfl) (by rfl) dX12_choose_72 rfl ?_
                        refine w_goto (pc' := 48) dX12_choose_75 rfl ?_
                        exact ih_48 _ (by omega) (j + (-1)) (updI R3 j ((R3 j) + (R3 (j - 1)))) rfl (by omega) (by omega) (by intro u a b; by_cases e : u = j; (rw [e, updI_eq]; refine ⟨fun _ => ?_, fun h => by omega⟩; rw [ha (by omega), hb (by omega)]; have := hp (by omega); rw [show i - 1 + 1 = i by omega] at this; omega); rw [updI_ne e]; exact ⟨fun h => (hR3 u a b).1 (by omega), fun h => (hR3 u a b).2 (by omega)⟩)
                  exact hl_48 _ i R2 rfl (by omega) (by omega) (by intro u a b; refine ⟨fun h => ?_, fun _ => hR2 u a b⟩; rw [hR2 u a b, CHO_out (by omega), CHO_out (by omega)])
            exact hl_40 _ 1 (updI R 0 1) rfl (by omega) (by omega) (by intro j a b; by_cases e : j = 0; (rw [e, updI_eq, show (1 : Int) - 1 = 0 by omega, CHO_0 (by omega)]); rw [updI_ne e, hR j a (by omega), CHO_out (by omega)])
          · skip
            refine w_aload_n (pc' := 19) (i := 0) (by rfl) (by rfl) dX12_choose_18 rfl ?_
            refine w_getS (pc' := 22) (q := 207) fg_X12_241 kd_133 sf_X12_115 gr_133_115 dX12_choose_19 rfl ?_
            refine w_iload_n (pc' := 23) (i := 3) (by rfl) (by rfl) dX12_choose_22 rfl ?_
            refine w_lconst (n := 0) (pc' := 24) (by decide) (by decide) dX12_choose_23 rfl ?_
            refine w_last (pc' := 25) kd_207 (by omega) (by omega) dX12_choose_24 rfl ?_
            refine Wp.heq (σ' := gUr σ 207 (updI R i 0)) gUp_row ?_
            refine v_iinc (pc' := 28) (x := i) (ls' := [gR 133, gI n, gI k, gI (i + 1), gX 1]) (by omega) (by decide) (by rfl) (by rfl) dX12_choose_25 rfl ?_
            refine w_goto (pc' := 13) dX12_choose_28 rfl ?_
            exact ih_13 _ (by omega) (i + 1) (updI R i 0) rfl (by omega) (by omega) (by intro j a b; by_cases e : j = i; (rw [e, updI_eq]); rw [updI_ne e]; exact hR j a (by omega))
      refine Wp.heq (σ' := gUr σ 207 (σ 207)) gUr_id.symm ?_
      exact hl_13 _ 0 (σ 207) rfl (by omega) (by omega) (by intro j a b; omega)
    · skip
      refine w_lconst (n := 0) (pc' := 10) (by decide) (by decide) dX12_choose_9 rfl ?_
      refine w_lreturn rfl dX12_choose_10 ?_
      first | (exfalso; omega) | exact ⟨by rw [show CHO n k = 0 from if_pos (by omega)], σ 207, gUr_id.symm⟩
theorem site_chance : tx_Site mX11_chance 23 := ⟨185, 258, 189, "too many votes are known then, or no such answer", ex_cn, by decide, ex_atm, ex_ot, dX11_chance_23, dX11_chance_26, Or.inr ⟨dX11_chance_27, dX11_chance_30, dX11_chance_33⟩⟩
theorem xu_chance {σ0 : gH} (hI : Inv σ0) (t w : Int) : Up mX11_chance 30 (fun v σ' => ((TL σ0 t 0 ≤ 60 ∧ 0 ≤ w ∧ w ≤ 1) ∧ v = gJ (CHA σ0 t w) ∧ QC σ0 σ') ∨ (¬ (TL σ0 t 0 ≤ 60 ∧ 0 ≤ w ∧ w ≤ 1) ∧ v = gX (23 + 9) ∧ QC σ0 σ')) σ0 0 [gR 0, gI t, gI w] [] := by
  refine u_iload_n (pc' := 1) (i := 2) (by rfl) (by rfl) dX11_chance_0 rfl ?_
  refine u_if_lt (pc' := 4) (t := 23) dX11_chance_1 rfl rfl (fun c_1 => ?_) (fun c_1 => ?_)
  · skip
    refine u_throw (i := 185) dX11_chance_23 ?_
    exact Or.inr ⟨by omega, rfl, QC.refl hI⟩
  · skip
    refine u_iload_n (pc' := 5) (i := 2) (by rfl) (by rfl) dX11_chance_4 rfl ?_
    refine u_iconst (pc' := 6) (by decide) dX11_chance_5 rfl ?_
    refine u_icmp_gt (pc' := 9) (t := 23) dX11_chance_6 rfl rfl (fun c_6 => ?_) (fun c_6 => ?_)
    · skip
      refine u_throw (i := 185) dX11_chance_23 ?_
      exact Or.inr ⟨by omega, rfl, QC.refl hI⟩
    · skip
      refine u_aload_n (pc' := 10) (i := 0) (by rfl) (by rfl) dX11_chance_9 rfl ?_
      refine u_getS (pc' := 13) (q := 125) fg_X11_85 kd_0 sf_X11_13 gr_0_13 dX11_chance_10 rfl ?_
      refine u_iload_n (pc' := 14) (i := 1) (by rfl) (by rfl) dX11_chance_13 rfl ?_
      refine u_iconst (pc' := 15) (by decide) dX11_chance_14 rfl ?_
      refine u_callV (pc' := 18) (d' := 5) (av := [gI t, gI 0]) mi_mX1_tallyOf lk_X11_255 rfl ci_X1 kd_125 rfl (Nat.le_of_ble_eq_true rfl) (Nat.le_of_ble_eq_true rfl) dX11_chance_15 rfl (k_tallyOf hI (QC.refl hI) t 0 (by omega)) (fun v_15 σ15 q_15 => ?_)
      obtain ⟨rfl, hq_15, hk_15⟩ := q_15
      show Up _ _ _ _ _ _ [gI (TL σ0 t 0)]
      refine u_bipush (pc' := 20) (by decide) (by decide) dX11_chance_18 rfl ?_
      refine u_icmp_le (pc' := 23) (t := 34) dX11_chance_20 rfl rfl (fun c_20 => ?_) (fun c_20 => ?_)
      · skip
        refine u_aload_n (pc' := 35) (i := 0) (by rfl) (by rfl) dX11_chance_34 rfl ?_
        refine u_getS (pc' := 38) (q := 125) fg_X11_85 kd_0 sf_X11_13 gr_0_13 dX11_chance_35 rfl ?_
        refine u_iload_n (pc' := 39) (i := 1) (by rfl) (by rfl) dX11_chance_38 rfl ?_
        refine u_iload_n (pc' := 40) (i := 2) (by rfl) (by rfl) dX11_chance_39 rfl ?_
        refine u_callV (pc' := 43) (d' := 6) (av := [gI t, gI w]) mi_mX1_chanceOf lk_X11_260 rfl ci_X1 kd_125 rfl (Nat.le_of_ble_eq_true rfl) (Nat.le_of_ble_eq_true rfl) dX11_chance_40 rfl (k_chanceOf hI hq_15 t w (by omega) (by omega)) (fun v_40 σ40 q_40 => ?_)
        obtain ⟨rfl, hq_40⟩ := q_40
        show Up _ _ _ _ _ _ [gJ (CHA σ0 t w)]
        refine u_lreturn rfl dX11_chance_43 ?_
        exact Or.inl ⟨by omega, rfl, hq_40⟩
      · skip
        refine u_throw (i := 185) dX11_chance_23 ?_
        exact Or.inr ⟨by omega, rfl, hq_15⟩
theorem m_chance {σ0 : gH} (hI : Inv σ0) (t w : Int) : Mt mX12_chance 30 [gR 133, gI t, gI w] σ0 (fun v σ' => (((TL σ0 t 0 ≤ 60 ∧ 0 ≤ w ∧ w ≤ 1) ∧ v = gJ (CHA σ0 t w) ∧ σ' 133 0 = 0) ∨ (¬ (TL σ0 t 0 ≤ 60 ∧ 0 ≤ w ∧ w ≤ 1) ∧ v = gJ 0 ∧ σ' 133 0 = 1)) ∧ QM σ0 σ' ∧ σ' 208 = σ0 208) := by
  refine Mt.walk (ls := [gR 133, gI t, gI w, gX 1, gX 1, gX 1, gX 1, gX 1, gX 1, gX 1, gX 1, gX 1, gX 1]) pn_X12 rfl (fun _ _ h => by rcases h.1 with h | h <;> cases h.2.1) (Nat.le_of_ble_eq_true rfl) rfl ?_
  have ht := TL_ord σ0 t
  refine w_aload_n (pc' := 1) (i := 0) (by rfl) (by rfl) dX12_chance_0 rfl ?_
  refine w_iload_n (pc' := 2) (i := 1) (by rfl) (by rfl) dX12_chance_1 rfl ?_
  refine w_callV (pc' := 5) (d' := 4) (av := [gI t]) mi_mX12_countVotes lk_X12_601 rfl ci_X12 kd_133 rfl (Nat.le_of_ble_eq_true rfl) (Nat.le_of_ble_eq_true rfl) dX12_chance_2 rfl (q_countVotes hI (QM.refl hI) t) (fun v_2 σ2 q_2 => ?_)
  obtain ⟨rfl, hq_2, ha_2, hf_2, hw_2, hl_2, hx_2, hy_2⟩ := q_2
  show Wp _ _ _ _ _ _ []
  refine w_aload_n (pc' := 6) (i := 0) (by rfl) (by rfl) dX12_chance_5 rfl ?_
  refine v_getI (pc' := 9) (ji := 111) rfl fg_X12_586 kd_133 dX12_chance_6 rfl ?_
  rw [ha_2]
  refine w_bipush (pc' := 11) (by decide) (by decide) dX12_chance_9 rfl ?_
  refine w_icmp_gt (pc' := 14) (t := 23) dX12_chance_11 rfl rfl (fun c_11 => ?_) (fun c_11 => ?_)
  · skip
    refine w_aload_n (pc' := 24) (i := 0) (by rfl) (by rfl) dX12_chance_23 rfl ?_
    refine v_callVE (pc' := 27) (st' := [gI 0]) (d' := 0) (av := []) mi_mX12_refuse lk_X12_368 rfl ci_X12 kd_133 rfl (Nat.le_of_ble_eq_true rfl) (Nat.le_of_ble_eq_true rfl) dX12_chance_24 rfl rfl (q_refuse σ2) ?_
    refine w_i2l (pc' := 28) dX12_chance_27 rfl ?_
    refine w_lreturn rfl dX12_chance_28 ?_
    exact ⟨Or.inr ⟨by omega, rfl, rfl⟩, QM.up hq_2 (k := 133) (i := 0) (v := 1) (by decide) (fun h => h), hy_2⟩
  · skip
    refine w_iload_n (pc' := 15) (i := 2) (by rfl) (by rfl) dX12_chance_14 rfl ?_
    refine w_if_lt (pc' := 18) (t := 23) dX12_chance_15 rfl rfl (fun c_15 => ?_) (fun c_15 => ?_)
    · skip
      refine w_aload_n (pc' := 24) (i := 0) (by rfl) (by rfl) dX12_chance_23 rfl ?_
      refine v_callVE (pc' := 27) (st' := [gI 0]) (d' := 0) (av := []) mi_mX12_refuse lk_X12_368 rfl ci_X12 kd_133 rfl (Nat.le_of_ble_eq_true rfl) (Nat.le_of_ble_eq_true rfl) dX12_chance_24 rfl rfl (q_refuse σ2) ?_
      refine w_i2l (pc' := 28) dX12_chance_27 rfl ?_
      refine w_lreturn rfl dX12_chance_28 ?_
      exact ⟨Or.inr ⟨by omega, rfl, rfl⟩, QM.up hq_2 (k := 133) (i := 0) (v := 1) (by decide) (fun h => h), hy_2⟩
    · skip
      refine w_iload_n (pc' := 19) (i := 2) (by rfl) (by rfl) dX12_chance_18 rfl ?_
      refine w_iconst (pc' := 20) (by decide) dX12_chance_19 rfl ?_
      refine w_icmp_le (pc' := 23) (t := 29) dX12_chance_20 rfl rfl (fun c_20 => ?_) (fun c_20 => ?_)
      · skip
        refine w_aload_n (pc' := 30) (i := 0) (by rfl) (by rfl) dX12_chance_29 rfl ?_
        refine w_iconst (pc' := 31) (by decide) dX12_chance_30 rfl ?_
        refine v_putI (pc' := 34) (ji := 0) rfl fp_X12_244 kd_133 sf_X12_0 dX12_chance_31 rfl ?_
        refine w_lconst (n := 0) (pc' := 35) (by decide) (by decide) dX12_chance_34 rfl ?_
        refine w_lstore_n (pc' := 36) (i := 3) (ls' := [gR 133, gI t, gI w, gJ 0, gX 1, gX 1, gX 1, gX 1, gX 1, gX 1, gX 1, gX 1, gX 1]) (by rfl) (by decide) (by rfl) dX12_chance_35 rfl ?_
        refine w_aload_n (pc' := 37) (i := 0) (by rfl) (by rfl) dX12_chance_36 rfl ?_
        refine v_getI (pc' := 40) (ji := 114) rfl fg_X12_595 kd_133 dX12_chance_37 rfl ?_
        show Wp _ _ _ _ _ _ [gI (σ2 133 114)]
        rw [hl_2]
        refine w_istore (pc' := 42) (ls' := [gR 133, gI t, gI w, gJ 0, gX 1, gI (TL σ0 t 3), gX 1, gX 1, gX 1, gX 1, gX 1, gX 1, gX 1]) (by decide) (by rfl) dX12_chance_40 rfl ?_
        have hl_42 : ∀ (mm : Nat) (i W : Int) (R : Int → Int), ((TL σ0 t 1) + 1 - i).toNat = mm → ((TL σ0 t 3) ≤ i) → (i ≤ (TL σ0 t 1) + 1) → (W = w64 (WYS (TL σ0 t 0) (TL σ0 t 1) (TL σ0 t 2) (TL σ0 t 3) (i).toNat)) → Wp mX12_chance 30 (fun v σ' => (((TL σ0 t 0 ≤ 60 ∧ 0 ≤ w ∧ w ≤ 1) ∧ v = gJ (CHA σ0 t w) ∧ σ' 133 0 = 0) ∨ (¬ (TL σ0 t 0 ≤ 60 ∧ 0 ≤ w ∧ w ≤ 1) ∧ v = gJ 0 ∧ σ' 133 0 = 1)) ∧ QM σ0 σ' ∧ σ' 208 = σ0 208) (gUr (gUp σ2 133 0 0) 207 R) 42 [gR 133, gI t, gI w, gJ W, gX 1, gI i, gX 1, gX 1, gX 1, gX 1, gX 1, gX 1, gX 1] [] := by
          intro m_42
          induction m_42 using Nat.strongRecOn with
          | _ m_42 ih_42 =>
            intro i W R hmeas_42 i0 i1 hW
            have es := WYS_s (v := (TL σ0 t 0)) (d := (TL σ0 t 1)) (w := (TL σ0 t 2)) (l := (TL σ0 t 3)) (i := i) (by omega)
            refine w_iload (pc' := 44) (by rfl) dX12_chance_42 rfl ?_
            refine w_aload_n (pc' := 45) (i := 0) (by rfl) (by rfl) dX12_chance_44 rfl ?_
            refine v_getI (pc' := 48) (ji := 112) rfl fg_X12_589 kd_133 dX12_chance_45 rfl ?_
            show Wp _ _ _ _ _ _ [gI (σ2 133 112), gI i]
            rw [hf_2]
            refine w_icmp_gt (pc' := 51) (t := 91) dX12_chance_48 rfl rfl (fun c_48 => ?_) (fun c_48 => ?_)
            · skip
              refine w_aload_n (pc' := 92) (i := 0) (by rfl) (by rfl) dX12_chance_91 rfl ?_
              refine w_aload_n (pc' := 93) (i := 0) (by rfl) (by rfl) dX12_chance_92 rfl ?_
              refine v_getI (pc' := 96) (ji := 111) rfl fg_X12_586 kd_133 dX12_chance_93 rfl ?_
              show Wp _ _ _ _ _ _ [gI (σ2 133 111), gR 133]
              rw [ha_2]
              refine w_aload_n (pc' := 97) (i := 0) (by rfl) (by rfl) dX12_chance_96 rfl ?_
              refine v_getI (pc' := 100) (ji := 112) rfl fg_X12_589 kd_133 dX12_chance_97 rfl ?_
              show Wp _ _ _ _ _ _ [gI (σ2 133 112), gI (TL σ0 t 0), gR 133]
              rw [hf_2]
              refine w_callV (pc' := 103) (d' := 0) (av := [gI (TL σ0 t 0), gI (TL σ0 t 1)]) mi_mX12_choose lk_X12_604 rfl ci_X12 kd_133 rfl (Nat.le_of_ble_eq_true rfl) (Nat.le_of_ble_eq_true rfl) dX12_chance_100 rfl (q_choose (gUr (gUp σ2 133 0 0) 207 R) (TL σ0 t 0) (TL σ0 t 1) (by omega)) (fun v_100 σ_100 q_100 => ?_)
              obtain ⟨rfl, R100, rfl⟩ := q_100
              refine Wp.heq (σ' := gUr (gUp σ2 133 0 0) 207 R100) gUr_same ?_
              show Wp _ _ _ _ _ _ [gJ (CHO (TL σ0 t 0) (TL σ0 t 1))]
              refine w_lstore (pc' := 105) (ls' := [gR 133, gI t, gI w, gJ W, gX 1, gJ (CHO (TL σ0 t 0) (TL σ0 t 1)), gX 1, gX 1, gX 1, gX 1, gX 1, gX 1, gX 1]) (by decide) (by rfl) dX12_chance_103 rfl ?_
              refine w_lload_n (pc' := 106) (i := 3) (by rfl) (by rfl) dX12_chance_105 rfl ?_
              refine w_lstore (pc' := 108) (ls' := [gR 133, gI t, gI w, gJ W, gX 1, gJ (CHO (TL σ0 t 0) (TL σ0 t 1)), gX 1, gJ W, gX 1, gX 1, gX 1, gX 1, gX 1]) (by decide) (by rfl) dX12_chance_106 rfl ?_
              refine w_lload (pc' := 110) (by rfl) dX12_chance_108 rfl ?_
              refine w_lstore (pc' := 112) (ls' := [gR 133, gI t, gI w, gJ W, gX 1, gJ (CHO (TL σ0 t 0) (TL σ0 t 1)), gX 1, gJ W, gX 1, gJ (CHO (TL σ0 t 0) (TL σ0 t 1)), gX 1, gX 1, gX 1]) (by decide) (by rfl) dX12_chance_110 rfl ?_
              have hWT : W = WTS σ0 t := by
                rw [hW]
                unfold WTS
                rw [show (TL σ0 t 1) + 1 = i by omega]
              have hl_112 : ∀ (mm : Nat) (x y : Int), y.natAbs = mm → (∃ m, eu m x y = eu 200 (WTS σ0 t) (CHO (TL σ0 t 0) (TL σ0 t 1)) ∧ euG m x y) → (x ≠ 0 ∨ y ≠ 0) → (gi64 y) → Wp mX12_chance 30 (fun v σ' => (((TL σ0 t 0 ≤ 60 ∧ 0 ≤ w ∧ w ≤ 1) ∧ v = gJ (CHA σ0 t w) ∧ σ' 133 0 = 0) ∨ (¬ (TL σ0 t 0 ≤ 60 ∧ 0 ≤ w ∧ w ≤ 1) ∧ v = gJ 0 ∧ σ' 133 0 = 1)) ∧ QM σ0 σ' ∧ σ' 208 = σ0 208) (gUr (gUp σ2 133 0 0) 207 R100) 112 [gR 133, gI t, gI w, gJ W, gX 1, gJ (CHO (TL σ0 t 0) (TL σ0 t 1)), gX 1, gJ x, gX 1, gJ y, gX 1, gX 1, gX 1] [] := by
                intro m_112
                induction m_112 using Nat.strongRecOn with
                | _ m_112 ih_112 =>
                  intro x y hmeas_112 hG hn0 hy
                  have hg := gCmp_0 (x := y)
                  have tm := fun h : y ≠ 0 => tmod64 (g := x) hy h
                  refine w_lload (pc' := 114) (by rfl) dX12_chance_112 rfl ?_
                  refine w_lconst (n := 0) (pc' := 115) (by decide) (by decide) dX12_chance_114 rfl ?_
                  refine w_lcmp (pc' := 116) dX12_chance_115 rfl ?_
                  refine w_if_eq (pc' := 119) (t := 137) dX12_chance_116 rfl rfl (fun c_116 => ?_) (fun c_116 => ?_)
                  · skip
                    refine w_iload_n (pc' := 138) (i := 2) (by rfl) (by rfl) dX12_chance_137 rfl ?_
                    refine w_if_ne (pc' := 141) (t := 145) dX12_chance_138 rfl rfl (fun c_138 => ?_) (fun c_138 => ?_)
                    · skip
                      refine w_lload (pc' := 147) (by rfl) dX12_chance_145 rfl ?_
                      refine w_lload (pc' := 149) (by rfl) dX12_chance_147 rfl ?_
                      refine w_ldiv (pc' := 150) (by omega) dX12_chance_149 rfl ?_
                      refine w_lreturn rfl dX12_chance_150 ?_
                      obtain ⟨m, e1, e2⟩ := hG
                      rw [eu_z (show y = 0 by omega)] at e1
                      first
                        | (exfalso; omega)
                        | exact ⟨Or.inl ⟨by omega, by unfold CHA; rw [if_pos (by omega), ← e1, hWT], rfl⟩, QM.ur (QM.up hq_2 (k := 133) (i := 0) (v := 0) (by decide) (fun h => h)) (lm_nfC 207 (by decide)) (fun h => h), hy_2⟩
                        | exact ⟨Or.inl ⟨by omega, by unfold CHA; rw [if_neg (by omega), ← e1], rfl⟩, QM.ur (QM.up hq_2 (k := 133) (i := 0) (v := 0) (by decide) (fun h => h)) (lm_nfC 207 (by decide)) (fun h => h), hy_2⟩
                    · skip
                      refine w_lload_n (pc' := 142) (i := 3) (by rfl) (by rfl) dX12_chance_141 rfl ?_
                      refine w_goto (pc' := 147) dX12_chance_142 rfl ?_
                      refine w_lload (pc' := 149) (by rfl) dX12_chance_147 rfl ?_
                      refine w_ldiv (pc' := 150) (by omega) dX12_chance_149 rfl ?_
                      refine w_lreturn rfl dX12_chance_150 ?_
                      obtain ⟨m, e1, e2⟩ := hG
                      rw [eu_z (show y = 0 by omega)] at e1
                      first
                        | (exfalso; omega)
                        | exact ⟨Or.inl ⟨by omega, by unfold CHA; rw [if_pos (by omega), ← e1, hWT], rfl⟩, QM.ur (QM.up hq_2 (k := 133) (i := 0) (v := 0) (by decide) (fun h => h)) (lm_nfC 207 (by decide)) (fun h => h), hy_2⟩
                        | exact ⟨Or.inl ⟨by omega, by unfold CHA; rw [if_neg (by omega), ← e1], rfl⟩, QM.ur (QM.up hq_2 (k := 133) (i := 0) (v := 0) (by decide) (fun h => h)) (lm_nfC 207 (by decide)) (fun h => h), hy_2⟩
                  · skip
                    refine w_lload (pc' := 121) (by rfl) dX12_chance_119 rfl ?_
                    refine w_lload (pc' := 123) (by rfl) dX12_chance_121 rfl ?_
                    refine w_lrem (pc' := 124) (by omega) dX12_chance_123 rfl ?_
                    refine w_lstore (pc' := 126) (ls' := [gR 133, gI t, gI w, gJ W, gX 1, gJ (CHO (TL σ0 t 0) (TL σ0 t 1)), gX 1, gJ x, gX 1, gJ y, gX 1, gJ (w64 (x.tmod y)), gX 1]) (by decide) (by rfl) dX12_chance_124 rfl ?_
                    refine w_lload (pc' := 128) (by rfl) dX12_chance_126 rfl ?_
                    refine w_lstore (pc' := 130) (ls' := [gR 133, gI t, gI w, gJ W, gX 1, gJ (CHO (TL σ0 t 0) (TL σ0 t 1)), gX 1, gJ y, gX 1, gJ y, gX 1, gJ (w64 (x.tmod y)), gX 1]) (by decide) (by rfl) dX12_chance_128 rfl ?_
                    refine w_lload (pc' := 132) (by rfl) dX12_chance_130 rfl ?_
                    refine w_lstore (pc' := 134) (ls' := [gR 133, gI t, gI w, gJ W, gX 1, gJ (CHO (TL σ0 t 0) (TL σ0 t 1)), gX 1, gJ y, gX 1, gJ (w64 (x.tmod y)), gX 1, gJ (w64 (x.tmod y)), gX 1]) (by decide) (by rfl) dX12_chance_132 rfl ?_
                    refine w_goto (pc' := 112) dX12_chance_134 rfl ?_
                    refine Wp.lose (ls' := [gR 133, gI t, gI w, gJ W, gX 1, gJ (CHO (TL σ0 t 0) (TL σ0 t 1)), gX 1, gJ y, gX 1, gJ (w64 (x.tmod y)), gX 1, gX 1, gX 1]) ⟨.inr rfl, ⟨.inr rfl, ⟨.inr rfl, ⟨.inr rfl, ⟨.inr rfl, ⟨.inr rfl, ⟨.inr rfl, ⟨.inr rfl, ⟨.inr rfl, ⟨.inr rfl, ⟨.inr rfl, ⟨.inl rfl, ⟨.inr rfl, trivial⟩⟩⟩⟩⟩⟩⟩⟩⟩⟩⟩⟩⟩ ?_
                    exact ih_112 _ (by have y0 : y ≠ 0 := (by omega); rw [(tm y0).1]; exact (by have := (tm y0).2.2; omega)) y (w64 (x.tmod y)) rfl (by have y0 : y ≠ 0 := (by omega); rw [(tm y0).1]; obtain ⟨m, e1, e2⟩ := hG; obtain ⟨m2, e3, e4⟩ := euG_s e2 y0; exact ⟨m2, by rw [← e1, e3, eu_s y0], e4⟩) (by omega) (by have y0 : y ≠ 0 := (by omega); rw [(tm y0).1]; exact (tm y0).2.1)
              exact hl_112 _ W (CHO (TL σ0 t 0) (TL σ0 t 1)) rfl (by rw [hWT]; exact ⟨200, rfl, euG_of (gi64_abs (CHO_64 (by omega)))⟩) (by have := CHO_pos (n := (TL σ0 t 0)) (k := (TL σ0 t 1)) (by omega) (by omega); omega) (by exact CHO_64 (by omega))
            · skip
              refine w_lload_n (pc' := 52) (i := 3) (by rfl) (by rfl) dX12_chance_51 rfl ?_
              refine w_aload_n (pc' := 53) (i := 0) (by rfl) (by rfl) dX12_chance_52 rfl ?_
              refine w_aload_n (pc' := 54) (i := 0) (by rfl) (by rfl) dX12_chance_53 rfl ?_
              refine v_getI (pc' := 57) (ji := 113) rfl fg_X12_592 kd_133 dX12_chance_54 rfl ?_
              show Wp _ _ _ _ _ _ [gI (σ2 133 113), gR 133, gJ W]
              rw [hw_2]
              refine w_iload (pc' := 59) (by rfl) dX12_chance_57 rfl ?_
              refine w_callV (pc' := 62) (d' := 0) (av := [gI (TL σ0 t 2), gI i]) mi_mX12_choose lk_X12_604 rfl ci_X12 kd_133 rfl (Nat.le_of_ble_eq_true rfl) (Nat.le_of_ble_eq_true rfl) dX12_chance_59 rfl (q_choose (gUr (gUp σ2 133 0 0) 207 R) (TL σ0 t 2) i (by omega)) (fun v_59 σ_59 q_59 => ?_)
              obtain ⟨rfl, R59, rfl⟩ := q_59
              refine Wp.heq (σ' := gUr (gUp σ2 133 0 0) 207 R59) gUr_same ?_
              show Wp _ _ _ _ _ _ [gJ (CHO (TL σ0 t 2) i), gJ W]
              refine w_aload_n (pc' := 63) (i := 0) (by rfl) (by rfl) dX12_chance_62 rfl ?_
              refine w_aload_n (pc' := 64) (i := 0) (by rfl) (by rfl) dX12_chance_63 rfl ?_
              refine v_getI (pc' := 67) (ji := 111) rfl fg_X12_586 kd_133 dX12_chance_64 rfl ?_
              show Wp _ _ _ _ _ _ [gI (σ2 133 111), gR 133, gJ (CHO (TL σ0 t 2) i), gJ W]
              rw [ha_2]
              refine w_aload_n (pc' := 68) (i := 0) (by rfl) (by rfl) dX12_chance_67 rfl ?_
              refine v_getI (pc' := 71) (ji := 113) rfl fg_X12_592 kd_133 dX12_chance_68 rfl ?_
              show Wp _ _ _ _ _ _ [gI (σ2 133 113), gI (TL σ0 t 0), gR 133, gJ (CHO (TL σ0 t 2) i), gJ W]
              rw [hw_2]
              refine v_isub (pc' := 72) (by omega) dX12_chance_71 rfl ?_
              refine w_aload_n (pc' := 73) (i := 0) (by rfl) (by rfl) dX12_chance_72 rfl ?_
              refine v_getI (pc' := 76) (ji := 112) rfl fg_X12_589 kd_133 dX12_chance_73 rfl ?_
              show Wp _ _ _ _ _ _ [gI (σ2 133 112), gI ((TL σ0 t 0) - (TL σ0 t 2)), gR 133, gJ (CHO (TL σ0 t 2) i), gJ W]
              rw [hf_2]
              refine w_iload (pc' := 78) (by rfl) dX12_chance_76 rfl ?_
              refine v_isub (pc' := 79) (by omega) dX12_chance_78 rfl ?_
              refine w_callV (pc' := 82) (d' := 0) (av := [gI ((TL σ0 t 0) - (TL σ0 t 2)), gI ((TL σ0 t 1) - i)]) mi_mX12_choose lk_X12_604 rfl ci_X12 kd_133 rfl (Nat.le_of_ble_eq_true rfl) (Nat.le_of_ble_eq_true rfl) dX12_chance_79 rfl (q_choose (gUr (gUp σ2 133 0 0) 207 R59) ((TL σ0 t 0) - (TL σ0 t 2)) ((TL σ0 t 1) - i) (by omega)) (fun v_79 σ_79 q_79 => ?_)
              obtain ⟨rfl, R79, rfl⟩ := q_79
              refine Wp.heq (σ' := gUr (gUp σ2 133 0 0) 207 R79) gUr_same ?_
              show Wp _ _ _ _ _ _ [gJ (CHO ((TL σ0 t 0) - (TL σ0 t 2)) ((TL σ0 t 1) - i)), gJ (CHO (TL σ0 t 2) i), gJ W]
              refine w_lmul (pc' := 83) dX12_chance_82 rfl ?_
              refine w_ladd (pc' := 84) dX12_chance_83 rfl ?_
              refine w_lstore_n (pc' := 85) (i := 3) (ls' := [gR 133, gI t, gI w, gJ (w64 (W + (w64 ((CHO (TL σ0 t 2) i) * (CHO ((TL σ0 t 0) - (TL σ0 t 2)) ((TL σ0 t 1) - i)))))), gX 1, gI i, gX 1, gX 1, gX 1, gX 1, gX 1, gX 1, gX 1]) (by rfl) (by decide) (by rfl) dX12_chance_84 rfl ?_
              refine v_iinc (pc' := 88) (x := i) (ls' := [gR 133, gI t, gI w, gJ (w64 (W + (w64 ((CHO (TL σ0 t 2) i) * (CHO ((TL σ0 t 0) - (TL σ0 t 2)) ((TL σ0 t 1) - i)))))), gX 1, gI (i + 1), gX 1, gX 1, gX 1, gX 1, gX 1, gX 1, gX 1]) (by omega) (by decide) (by rfl) (by rfl) dX12_chance_85 rfl ?_
              refine w_goto (pc' := 42) dX12_chance_88 rfl ?_
              exact ih_42 _ (by omega) (i + 1) (w64 (W + (w64 ((CHO (TL σ0 t 2) i) * (CHO ((TL σ0 t 0) - (TL σ0 t 2)) ((TL σ0 t 1) - i)))))) R79 rfl (by omega) (by omega) (by rw [es, show wyT _ _ _ _ i = _ from if_pos i0, hW, w64_dbl])
        refine Wp.heq (σ' := gUr (gUp σ2 133 0 0) 207 (σ2 207)) (gUr_id (σ := gUp σ2 133 0 0) (k := 207)).symm ?_
        exact hl_42 _ (TL σ0 t 3) 0 (σ2 207) rfl (by omega) (by omega) (by rw [WYS_0]; rfl)
      · skip
        refine w_aload_n (pc' := 24) (i := 0) (by rfl) (by rfl) dX12_chance_23 rfl ?_
        refine v_callVE (pc' := 27) (st' := [gI 0]) (d' := 0) (av := []) mi_mX12_refuse lk_X12_368 rfl ci_X12 kd_133 rfl (Nat.le_of_ble_eq_true rfl) (Nat.le_of_ble_eq_true rfl) dX12_chance_24 rfl rfl (q_refuse σ2) ?_
        refine w_i2l (pc' := 28) dX12_chance_27 rfl ?_
        refine w_lreturn rfl dX12_chance_28 ?_
        exact ⟨Or.inr ⟨by omega, rfl, rfl⟩, QM.up hq_2 (k := 133) (i := 0) (v := 1) (by decide) (fun h => h), hy_2⟩
theorem cx_chance (t w : Int) : CX Inv (fun y => gJ y) mL_chance [(0, 9, 12, 13)] mX12_chance [gI t, gI w] := by
  refine CX_query (fun σ0 => TL σ0 t 0 ≤ 60 ∧ 0 ≤ w ∧ w ≤ 1) (fun σ0 => CHA σ0 t w) (fun σ0 kk hg hI hk => ?_) (fun σ0 hI => m_chance hI t w) (fun _ => rfl) (fun _ => rfl) (fun _ _ => rfl) (fun _ _ => rfl) (fun σ h z => gGr_208 h z)
  exact wr_chance (k := kk) (r := CHA σ0 t w) (J0 := fun σ1 => gGr σ1 ∧ QC σ0 σ1) (by rcases hk with h | h; exact Or.inl h.1; exact Or.inr h.1) (gMx_walk (M := mX11_chance) (P := TL σ0 t 0 ≤ 60 ∧ 0 ≤ w ∧ w ≤ 1) (v0 := gJ (CHA σ0 t w)) (J := fun σ1 => QC σ0 σ1) pn_GR rfl site_chance (fun _ h => by cases h) (Nat.le_of_ble_eq_true rfl) (show gEnt _ _ = [gR 0, gI t, gI w] from rfl) hg hk (xu_chance hI t w))
