/-! the class GiftRegister$Gifts, cell 41 (gen/mod_gifts.py) -/
theorem g_total (σ : gH) (hz : 0 ≤ σ 41 11 ∧ σ 41 11 ≤ 120 ∧ 0 ≤ σ 41 16 ∧ σ 41 16 ≤ 200)  : Mt mX2_total 0 [gR 41] σ (rE (gI (σ 41 11)) σ) := by
  refine Mt.walk (ls := [gR 41]) pn_X2 rfl (fun _ _ h => by cases h.1) (Nat.le_of_ble_eq_true rfl) rfl ?_
  refine w_aload_n (pc' := 1) (i := 0) (by rfl) (by rfl) dX2_total_0 rfl ?_
  refine v_getI (pc' := 4) (ji := 11) rfl fg_X2_58 kd_41 dX2_total_1 rfl ?_
  refine v_ireturn rfl dX2_total_4 ?_
  exact ⟨rfl, rfl⟩
theorem g_has (σ : gH) (hz : 0 ≤ σ 41 11 ∧ σ 41 11 ≤ 120 ∧ 0 ≤ σ 41 16 ∧ σ 41 16 ≤ 200) (g : Int) : Mt mX2_has 0 [gR 41, gI g] σ (rE (gI (gb (0 ≤ g ∧ g < σ 41 11))) σ) := by
  refine Mt.walk (ls := [gR 41, gI g]) pn_X2 rfl (fun _ _ h => by cases h.1) (Nat.le_of_ble_eq_true rfl) rfl ?_
  refine w_iload_n (pc' := 1) (i := 1) (by rfl) (by rfl) dX2_has_0 rfl ?_
  refine w_if_lt (pc' := 4) (t := 22) dX2_has_1 rfl rfl (fun c_1 => ?_) (fun c_1 => ?_)
  · skip
    refine w_iconst (pc' := 23) (by decide) dX2_has_22 rfl ?_
    refine w_zreturn rfl (.inl rfl) dX2_has_23 ?_
    first | (exfalso; omega) | exact ⟨gbT (by omega), rfl⟩ | exact ⟨gbF (by omega), rfl⟩
  · skip
    refine w_iload_n (pc' := 5) (i := 1) (by rfl) (by rfl) dX2_has_4 rfl ?_
    refine w_aload_n (pc' := 6) (i := 0) (by rfl) (by rfl) dX2_has_5 rfl ?_
    refine v_getI (pc' := 9) (ji := 11) rfl fg_X2_58 kd_41 dX2_has_6 rfl ?_
    refine w_icmp_ge (pc' := 12) (t := 22) dX2_has_9 rfl rfl (fun c_9 => ?_) (fun c_9 => ?_)
    · skip
      refine w_iconst (pc' := 23) (by decide) dX2_has_22 rfl ?_
      refine w_zreturn rfl (.inl rfl) dX2_has_23 ?_
      first | (exfalso; omega) | exact ⟨gbT (by omega), rfl⟩ | exact ⟨gbF (by omega), rfl⟩
    · skip
      refine w_iload_n (pc' := 13) (i := 1) (by rfl) (by rfl) dX2_has_12 rfl ?_
      refine w_bipush (pc' := 15) (by decide) (by decide) dX2_has_13 rfl ?_
      refine w_icmp_ge (pc' := 18) (t := 22) dX2_has_15 rfl rfl (fun c_15 => ?_) (fun c_15 => ?_)
      · skip
        refine w_iconst (pc' := 23) (by decide) dX2_has_22 rfl ?_
        refine w_zreturn rfl (.inl rfl) dX2_has_23 ?_
        first | (exfalso; omega) | exact ⟨gbT (by omega), rfl⟩ | exact ⟨gbF (by omega), rfl⟩
      · skip
        refine w_iconst (pc' := 19) (by decide) dX2_has_18 rfl ?_
        refine w_goto (pc' := 23) dX2_has_19 rfl ?_
        refine w_zreturn rfl (.inr rfl) dX2_has_23 ?_
        first | (exfalso; omega) | exact ⟨gbT (by omega), rfl⟩ | exact ⟨gbF (by omega), rfl⟩
theorem g_isKnown (σ : gH) (hz : 0 ≤ σ 41 11 ∧ σ 41 11 ≤ 120 ∧ 0 ≤ σ 41 16 ∧ σ 41 16 ≤ 200) (g t : Int) : Mt mX2_isKnown 1 [gR 41, gI g, gI t] σ (rE (gI (gb ((0 ≤ g ∧ g < σ 41 11) ∧ σ 49 g ≤ t))) σ) := by
  refine Mt.walk (ls := [gR 41, gI g, gI t]) pn_X2 rfl (fun _ _ h => by cases h.1) (Nat.le_of_ble_eq_true rfl) rfl ?_
  refine w_aload_n (pc' := 1) (i := 0) (by rfl) (by rfl) dX2_isKnown_0 rfl ?_
  refine w_iload_n (pc' := 2) (i := 1) (by rfl) (by rfl) dX2_isKnown_1 rfl ?_
  refine v_callVE (pc' := 5) (st' := [gI (gb (0 ≤ g ∧ g < σ 41 11))]) (d' := 0) (av := [gI g]) mi_mX2_has lk_X2_62 rfl ci_X2 kd_41 rfl (Nat.le_of_ble_eq_true rfl) (Nat.le_of_ble_eq_true rfl) dX2_isKnown_2 rfl rfl (g_has σ hz g) ?_
  refine v_if_eqB (pc' := 8) (t := 22) dX2_isKnown_5 rfl rfl (fun c_5 => ?_) (fun c_5 => ?_)
  · skip
    refine w_iconst (pc' := 23) (by decide) dX2_isKnown_22 rfl ?_
    refine w_zreturn rfl (.inl rfl) dX2_isKnown_23 ?_
    first | (exfalso; omega) | exact ⟨gbT (by omega), rfl⟩ | exact ⟨gbF (by omega), rfl⟩
  · skip
    refine w_aload_n (pc' := 9) (i := 0) (by rfl) (by rfl) dX2_isKnown_8 rfl ?_
    refine w_getS (pc' := 12) (q := 49) fg_X2_34 kd_41 sf_X2_7 gr_41_7 dX2_isKnown_9 rfl ?_
    refine w_iload_n (pc' := 13) (i := 1) (by rfl) (by rfl) dX2_isKnown_12 rfl ?_
    refine w_iald (pc' := 14) kd_49 (by omega) (by omega) dX2_isKnown_13 rfl ?_
    refine w_iload_n (pc' := 15) (i := 2) (by rfl) (by rfl) dX2_isKnown_14 rfl ?_
    refine w_icmp_gt (pc' := 18) (t := 22) dX2_isKnown_15 rfl rfl (fun c_15 => ?_) (fun c_15 => ?_)
    · skip
      refine w_iconst (pc' := 23) (by decide) dX2_isKnown_22 rfl ?_
      refine w_zreturn rfl (.inl rfl) dX2_isKnown_23 ?_
      first | (exfalso; omega) | exact ⟨gbT (by omega), rfl⟩ | exact ⟨gbF (by omega), rfl⟩
    · skip
      refine w_iconst (pc' := 19) (by decide) dX2_isKnown_18 rfl ?_
      refine w_goto (pc' := 23) dX2_isKnown_19 rfl ?_
      refine w_zreturn rfl (.inr rfl) dX2_isKnown_23 ?_
      first | (exfalso; omega) | exact ⟨gbT (by omega), rfl⟩ | exact ⟨gbF (by omega), rfl⟩
theorem g_giver (σ : gH) (hz : 0 ≤ σ 41 11 ∧ σ 41 11 ≤ 120 ∧ 0 ≤ σ 41 16 ∧ σ 41 16 ≤ 200) (g : Int) : Mt mX2_giver 1 [gR 41, gI g] σ (rE (gI (if 0 ≤ g ∧ g < σ 41 11 then σ 42 g else -1)) σ) := by
  refine Mt.walk (ls := [gR 41, gI g]) pn_X2 rfl (fun _ _ h => by cases h.1) (Nat.le_of_ble_eq_true rfl) rfl ?_
  refine w_aload_n (pc' := 1) (i := 0) (by rfl) (by rfl) dX2_giver_0 rfl ?_
  refine w_iload_n (pc' := 2) (i := 1) (by rfl) (by rfl) dX2_giver_1 rfl ?_
  refine v_callVE (pc' := 5) (st' := [gI (gb (0 ≤ g ∧ g < σ 41 11))]) (d' := 0) (av := [gI g]) mi_mX2_has lk_X2_62 rfl ci_X2 kd_41 rfl (Nat.le_of_ble_eq_true rfl) (Nat.le_of_ble_eq_true rfl) dX2_giver_2 rfl rfl (g_has σ hz g) ?_
  refine v_if_eqB (pc' := 8) (t := 17) dX2_giver_5 rfl rfl (fun c_5 => ?_) (fun c_5 => ?_)
  · skip
    refine w_iconst (pc' := 18) (by decide) dX2_giver_17 rfl ?_
    refine v_ireturn rfl dX2_giver_18 ?_
    first | (exfalso; omega) | exact ⟨by rw [if_pos (by omega)], rfl⟩ | exact ⟨by rw [if_neg (by omega)], rfl⟩
  · skip
    refine w_aload_n (pc' := 9) (i := 0) (by rfl) (by rfl) dX2_giver_8 rfl ?_
    refine w_getS (pc' := 12) (q := 42) fg_X2_9 kd_41 sf_X2_0 gr_41_0 dX2_giver_9 rfl ?_
    refine w_iload_n (pc' := 13) (i := 1) (by rfl) (by rfl) dX2_giver_12 rfl ?_
    refine w_iald (pc' := 14) kd_42 (by omega) (by omega) dX2_giver_13 rfl ?_
    refine w_goto (pc' := 18) dX2_giver_14 rfl ?_
    refine v_ireturn rfl dX2_giver_18 ?_
    first | (exfalso; omega) | exact ⟨by rw [if_pos (by omega)], rfl⟩ | exact ⟨by rw [if_neg (by omega)], rfl⟩
theorem g_receiver (σ : gH) (hz : 0 ≤ σ 41 11 ∧ σ 41 11 ≤ 120 ∧ 0 ≤ σ 41 16 ∧ σ 41 16 ≤ 200) (g : Int) : Mt mX2_receiver 1 [gR 41, gI g] σ (rE (gI (if 0 ≤ g ∧ g < σ 41 11 then σ 43 g else -1)) σ) := by
  refine Mt.walk (ls := [gR 41, gI g]) pn_X2 rfl (fun _ _ h => by cases h.1) (Nat.le_of_ble_eq_true rfl) rfl ?_
  refine w_aload_n (pc' := 1) (i := 0) (by rfl) (by rfl) dX2_receiver_0 rfl ?_
  refine w_iload_n (pc' := 2) (i := 1) (by rfl) (by rfl) dX2_receiver_1 rfl ?_
  refine v_callVE (pc' := 5) (st' := [gI (gb (0 ≤ g ∧ g < σ 41 11))]) (d' := 0) (av := [gI g]) mi_mX2_has lk_X2_62 rfl ci_X2 kd_41 rfl (Nat.le_of_ble_eq_true rfl) (Nat.le_of_ble_eq_true rfl) dX2_receiver_2 rfl rfl (g_has σ hz g) ?_
  refine v_if_eqB (pc' := 8) (t := 17) dX2_receiver_5 rfl rfl (fun c_5 => ?_) (fun c_5 => ?_)
  · skip
    refine w_iconst (pc' := 18) (by decide) dX2_receiver_17 rfl ?_
    refine v_ireturn rfl dX2_receiver_18 ?_
    first | (exfalso; omega) | exact ⟨by rw [if_pos (by omega)], rfl⟩ | exact ⟨by rw [if_neg (by omega)], rfl⟩
  · skip
    refine w_aload_n (pc' := 9) (i := 0) (by rfl) (by rfl) dX2_receiver_8 rfl ?_
    refine w_getS (pc' := 12) (q := 43) fg_X2_15 kd_41 sf_X2_1 gr_41_1 dX2_receiver_9 rfl ?_
    refine w_iload_n (pc' := 13) (i := 1) (by rfl) (by rfl) dX2_receiver_12 rfl ?_
    refine w_iald (pc' := 14) kd_43 (by omega) (by omega) dX2_receiver_13 rfl ?_
    refine w_goto (pc' := 18) dX2_receiver_14 rfl ?_
    refine v_ireturn rfl dX2_receiver_18 ?_
    first | (exfalso; omega) | exact ⟨by rw [if_pos (by omega)], rfl⟩ | exact ⟨by rw [if_neg (by omega)], rfl⟩
theorem g_sortOf (σ : gH) (hz : 0 ≤ σ 41 11 ∧ σ 41 11 ≤ 120 ∧ 0 ≤ σ 41 16 ∧ σ 41 16 ≤ 200) (g : Int) : Mt mX2_sortOf 1 [gR 41, gI g] σ (rE (gI (if 0 ≤ g ∧ g < σ 41 11 then σ 44 g else -1)) σ) := by
  refine Mt.walk (ls := [gR 41, gI g]) pn_X2 rfl (fun _ _ h => by cases h.1) (Nat.le_of_ble_eq_true rfl) rfl ?_
  refine w_aload_n (pc' := 1) (i := 0) (by rfl) (by rfl) dX2_sortOf_0 rfl ?_
  refine w_iload_n (pc' := 2) (i := 1) (by rfl) (by rfl) dX2_sortOf_1 rfl ?_
  refine v_callVE (pc' := 5) (st' := [gI (gb (0 ≤ g ∧ g < σ 41 11))]) (d' := 0) (av := [gI g]) mi_mX2_has lk_X2_62 rfl ci_X2 kd_41 rfl (Nat.le_of_ble_eq_true rfl) (Nat.le_of_ble_eq_true rfl) dX2_sortOf_2 rfl rfl (g_has σ hz g) ?_
  refine v_if_eqB (pc' := 8) (t := 17) dX2_sortOf_5 rfl rfl (fun c_5 => ?_) (fun c_5 => ?_)
  · skip
    refine w_iconst (pc' := 18) (by decide) dX2_sortOf_17 rfl ?_
    refine v_ireturn rfl dX2_sortOf_18 ?_
    first | (exfalso; omega) | exact ⟨by rw [if_pos (by omega)], rfl⟩ | exact ⟨by rw [if_neg (by omega)], rfl⟩
  · skip
    refine w_aload_n (pc' := 9) (i := 0) (by rfl) (by rfl) dX2_sortOf_8 rfl ?_
    refine w_getS (pc' := 12) (q := 44) fg_X2_18 kd_41 sf_X2_2 gr_41_2 dX2_sortOf_9 rfl ?_
    refine w_iload_n (pc' := 13) (i := 1) (by rfl) (by rfl) dX2_sortOf_12 rfl ?_
    refine w_iald (pc' := 14) kd_44 (by omega) (by omega) dX2_sortOf_13 rfl ?_
    refine w_goto (pc' := 18) dX2_sortOf_14 rfl ?_
    refine v_ireturn rfl dX2_sortOf_18 ?_
    first | (exfalso; omega) | exact ⟨by rw [if_pos (by omega)], rfl⟩ | exact ⟨by rw [if_neg (by omega)], rfl⟩
theorem g_dayOf (σ : gH) (hz : 0 ≤ σ 41 11 ∧ σ 41 11 ≤ 120 ∧ 0 ≤ σ 41 16 ∧ σ 41 16 ≤ 200) (g : Int) : Mt mX2_dayOf 1 [gR 41, gI g] σ (rE (gI (if 0 ≤ g ∧ g < σ 41 11 then σ 45 g else -1)) σ) := by
  refine Mt.walk (ls := [gR 41, gI g]) pn_X2 rfl (fun _ _ h => by cases h.1) (Nat.le_of_ble_eq_true rfl) rfl ?_
  refine w_aload_n (pc' := 1) (i := 0) (by rfl) (by rfl) dX2_dayOf_0 rfl ?_
  refine w_iload_n (pc' := 2) (i := 1) (by rfl) (by rfl) dX2_dayOf_1 rfl ?_
  refine v_callVE (pc' := 5) (st' := [gI (gb (0 ≤ g ∧ g < σ 41 11))]) (d' := 0) (av := [gI g]) mi_mX2_has lk_X2_62 rfl ci_X2 kd_41 rfl (Nat.le_of_ble_eq_true rfl) (Nat.le_of_ble_eq_true rfl) dX2_dayOf_2 rfl rfl (g_has σ hz g) ?_
  refine v_if_eqB (pc' := 8) (t := 17) dX2_dayOf_5 rfl rfl (fun c_5 => ?_) (fun c_5 => ?_)
  · skip
    refine w_iconst (pc' := 18) (by decide) dX2_dayOf_17 rfl ?_
    refine v_ireturn rfl dX2_dayOf_18 ?_
    first | (exfalso; omega) | exact ⟨by rw [if_pos (by omega)], rfl⟩ | exact ⟨by rw [if_neg (by omega)], rfl⟩
  · skip
    refine w_aload_n (pc' := 9) (i := 0) (by rfl) (by rfl) dX2_dayOf_8 rfl ?_
    refine w_getS (pc' := 12) (q := 45) fg_X2_21 kd_41 sf_X2_3 gr_41_3 dX2_dayOf_9 rfl ?_
    refine w_iload_n (pc' := 13) (i := 1) (by rfl) (by rfl) dX2_dayOf_12 rfl ?_
    refine w_iald (pc' := 14) kd_45 (by omega) (by omega) dX2_dayOf_13 rfl ?_
    refine w_goto (pc' := 18) dX2_dayOf_14 rfl ?_
    refine v_ireturn rfl dX2_dayOf_18 ?_
    first | (exfalso; omega) | exact ⟨by rw [if_pos (by omega)], rfl⟩ | exact ⟨by rw [if_neg (by omega)], rfl⟩
theorem g_isForeign (σ : gH) (hz : 0 ≤ σ 41 11 ∧ σ 41 11 ≤ 120 ∧ 0 ≤ σ 41 16 ∧ σ 41 16 ≤ 200) (g : Int) : Mt mX2_isForeign 1 [gR 41, gI g] σ (rE (gI (gb ((0 ≤ g ∧ g < σ 41 11) ∧ σ 46 g ≠ 0))) σ) := by
  refine Mt.walk (ls := [gR 41, gI g]) pn_X2 rfl (fun _ _ h => by cases h.1) (Nat.le_of_ble_eq_true rfl) rfl ?_
  refine w_aload_n (pc' := 1) (i := 0) (by rfl) (by rfl) dX2_isForeign_0 rfl ?_
  refine w_iload_n (pc' := 2) (i := 1) (by rfl) (by rfl) dX2_isForeign_1 rfl ?_
  refine v_callVE (pc' := 5) (st' := [gI (gb (0 ≤ g ∧ g < σ 41 11))]) (d' := 0) (av := [gI g]) mi_mX2_has lk_X2_62 rfl ci_X2 kd_41 rfl (Nat.le_of_ble_eq_true rfl) (Nat.le_of_ble_eq_true rfl) dX2_isForeign_2 rfl rfl (g_has σ hz g) ?_
  refine v_if_eqB (pc' := 8) (t := 21) dX2_isForeign_5 rfl rfl (fun c_5 => ?_) (fun c_5 => ?_)
  · skip
    refine w_iconst (pc' := 22) (by decide) dX2_isForeign_21 rfl ?_
    refine w_zreturn rfl (.inl rfl) dX2_isForeign_22 ?_
    first | (exfalso; omega) | exact ⟨gbT (by omega), rfl⟩ | exact ⟨gbF (by omega), rfl⟩
  · skip
    refine w_aload_n (pc' := 9) (i := 0) (by rfl) (by rfl) dX2_isForeign_8 rfl ?_
    refine w_getS (pc' := 12) (q := 46) fg_X2_24 kd_41 sf_X2_4 gr_41_4 dX2_isForeign_9 rfl ?_
    refine w_iload_n (pc' := 13) (i := 1) (by rfl) (by rfl) dX2_isForeign_12 rfl ?_
    refine w_zald (pc' := 14) kd_46 (by omega) (by omega) dX2_isForeign_13 rfl (fun z_13 => ?_)
    refine w_if_eq (pc' := 17) (t := 21) dX2_isForeign_14 rfl rfl (fun c_14 => ?_) (fun c_14 => ?_)
    · skip
      refine w_iconst (pc' := 22) (by decide) dX2_isForeign_21 rfl ?_
      refine w_zreturn rfl (.inl rfl) dX2_isForeign_22 ?_
      first | (exfalso; omega) | exact ⟨gbT (by omega), rfl⟩ | exact ⟨gbF (by omega), rfl⟩
    · skip
      refine w_iconst (pc' := 18) (by decide) dX2_isForeign_17 rfl ?_
      refine w_goto (pc' := 22) dX2_isForeign_18 rfl ?_
      refine w_zreturn rfl (.inr rfl) dX2_isForeign_22 ?_
      first | (exfalso; omega) | exact ⟨gbT (by omega), rfl⟩ | exact ⟨gbF (by omega), rfl⟩
def lastI (P : Int → Prop) [DecidablePred P] : Nat → Int
  | 0 => -1
  | n + 1 => if P n then n else lastI P n
theorem lastI_hit {P : Int → Prop} [DecidablePred P] {w : Int} (h0 : 0 ≤ w) (hp : P w) : lastI P (w + 1).toNat = w := by
  have e : (w + 1).toNat = w.toNat + 1 := by omega
  have e2 : ((w.toNat : Nat) : Int) = w := Int.toNat_of_nonneg h0
  rw [e]
  show (if P (w.toNat : Int) then (w.toNat : Int) else _) = w
  rw [e2, if_pos hp]
theorem lastI_miss {P : Int → Prop} [DecidablePred P] {w : Int} (h0 : 0 ≤ w) (hp : ¬ P w) : lastI P (w + 1).toNat = lastI P w.toNat := by
  have e : (w + 1).toNat = w.toNat + 1 := by omega
  have e2 : ((w.toNat : Nat) : Int) = w := Int.toNat_of_nonneg h0
  rw [e]
  show (if P (w.toNat : Int) then (w.toNat : Int) else _) = _
  rw [e2, if_neg hp]
theorem lastI_lt {P : Int → Prop} [DecidablePred P] : ∀ n : Nat, -1 ≤ lastI P n ∧ lastI P n < n
  | 0 => ⟨by show (-1 : Int) ≤ -1; omega, by show (-1 : Int) < 0; omega⟩
  | n + 1 => by
    have ih := lastI_lt (P := P) n
    show -1 ≤ (if P n then (n : Int) else lastI P n) ∧ (if P n then (n : Int) else lastI P n) < ((n + 1 : Nat) : Int)
    split <;> omega
/-- the latest worth told of a gift as of t; least and most; given back; told -/
def LW (σ : gH) (g t : Int) : Int := lastI (fun w => σ 53 w = g ∧ σ 56 w ≤ t) (σ 41 16).toNat
def LEAST (σ : gH) (g t : Int) : Int := if 0 ≤ LW σ g t then σ 54 (LW σ g t) else σ 47 g
def MOST (σ : gH) (g t : Int) : Int := if 0 ≤ LW σ g t then σ 55 (LW σ g t) else σ 48 g
def BACK (σ : gH) (g t : Int) : Int := if σ 50 g ≠ -1 ∧ σ 51 g ≤ t then σ 50 g else -1
def TOLD (σ : gH) (g t : Int) : Int := if σ 52 g ≠ -1 ∧ σ 52 g ≤ t then σ 52 g else -1
theorem LW_lt (σ : gH) (g t : Int) (h : 0 ≤ σ 41 16) : -1 ≤ LW σ g t ∧ LW σ g t < σ 41 16 := by
  have := lastI_lt (P := fun w => σ 53 w = g ∧ σ 56 w ≤ t) (σ 41 16).toNat
  unfold LW
  omega
theorem g_latestWorth (σ : gH) (hz : 0 ≤ σ 41 11 ∧ σ 41 11 ≤ 120 ∧ 0 ≤ σ 41 16 ∧ σ 41 16 ≤ 200) (g t : Int) : Mt mX2_latestWorth 1 [gR 41, gI g, gI t] σ (rE (gI (LW σ g t)) σ) := by
  refine Mt.walk (ls := [gR 41, gI g, gI t, gX 1]) pn_X2 rfl (fun _ _ h => by cases h.1) (Nat.le_of_ble_eq_true rfl) rfl ?_
  refine w_aload_n (pc' := 1) (i := 0) (by rfl) (by rfl) dX2_latestWorth_0 rfl ?_
  refine v_getI (pc' := 4) (ji := 16) rfl fg_X2_66 kd_41 dX2_latestWorth_1 rfl ?_
  refine w_sipush (pc' := 7) (by decide) (by decide) dX2_latestWorth_4 rfl ?_
  refine w_imin (pc' := 10) lk_X2_69 (Nat.le_of_ble_eq_true rfl) (Nat.le_of_ble_eq_true rfl) dX2_latestWorth_7 rfl ?_
  refine w_iconst (pc' := 11) (by decide) dX2_latestWorth_10 rfl ?_
  refine v_isub (pc' := 12) (by unfold gi32; split <;> omega) dX2_latestWorth_11 rfl ?_
  refine w_istore_n (pc' := 13) (i := 3) (ls' := [gR 41, gI g, gI t, gI ((if 200 < (σ 41 16) then 200 else (σ 41 16)) - 1)]) (by rfl) (by decide) (by rfl) dX2_latestWorth_12 rfl ?_
  have hl_13 : ∀ (n : Nat) (w : Int), (w + 1).toNat = n → -1 ≤ w → w < σ 41 16 → LW σ g t = lastI (fun w => σ 53 w = g ∧ σ 56 w ≤ t) (w + 1).toNat → Wp mX2_latestWorth 1 (rE (gI (LW σ g t)) σ) σ 13 [gR 41, gI g, gI t, gI w] [] := by
    intro n
    induction n using Nat.strongRecOn with
    | _ n ih =>
      intro w hmeas h1 h2 he
      refine w_iload_n (pc' := 14) (i := 3) (by rfl) (by rfl) dX2_latestWorth_13 rfl ?_
      refine w_if_lt (pc' := 17) (t := 45) dX2_latestWorth_14 rfl rfl (fun c_14 => ?_) (fun c_14 => ?_)
      · skip
        refine w_iconst (pc' := 46) (by decide) dX2_latestWorth_45 rfl ?_
        refine v_ireturn rfl dX2_latestWorth_46 ?_
        exact ⟨by rw [he, show w = -1 by omega]; rfl, rfl⟩
      · skip
        refine w_aload_n (pc' := 18) (i := 0) (by rfl) (by rfl) dX2_latestWorth_17 rfl ?_
        refine w_getS (pc' := 21) (q := 53) fg_X2_46 kd_41 sf_X2_12 gr_41_12 dX2_latestWorth_18 rfl ?_
        refine w_iload_n (pc' := 22) (i := 3) (by rfl) (by rfl) dX2_latestWorth_21 rfl ?_
        refine w_iald (pc' := 23) kd_53 (by omega) (by omega) dX2_latestWorth_22 rfl ?_
        refine w_iload_n (pc' := 24) (i := 1) (by rfl) (by rfl) dX2_latestWorth_23 rfl ?_
        refine w_icmp_ne (pc' := 27) (t := 39) dX2_latestWorth_24 rfl rfl (fun c_24 => ?_) (fun c_24 => ?_)
        · skip
          refine v_iinc (pc' := 42) (x := w) (ls' := [gR 41, gI g, gI t, gI (w + (-1))]) (by omega) (by decide) (by rfl) (by rfl) dX2_latestWorth_39 rfl ?_
          refine w_goto (pc' := 13) dX2_latestWorth_42 rfl ?_
          exact ih _ (by omega) (w + (-1)) rfl (by omega) (by omega) (by rw [he, lastI_miss (P := (fun w => σ 53 w = g ∧ σ 56 w ≤ t)) (w := w) (by omega) (by omega)]; congr 1; omega)
        · skip
          refine w_aload_n (pc' := 28) (i := 0) (by rfl) (by rfl) dX2_latestWorth_27 rfl ?_
          refine w_getS (pc' := 31) (q := 56) fg_X2_55 kd_41 sf_X2_15 gr_41_15 dX2_latestWorth_28 rfl ?_
          refine w_iload_n (pc' := 32) (i := 3) (by rfl) (by rfl) dX2_latestWorth_31 rfl ?_
          refine w_iald (pc' := 33) kd_56 (by omega) (by omega) dX2_latestWorth_32 rfl ?_
          refine w_iload_n (pc' := 34) (i := 2) (by rfl) (by rfl) dX2_latestWorth_33 rfl ?_
          refine w_icmp_gt (pc' := 37) (t := 39) dX2_latestWorth_34 rfl rfl (fun c_34 => ?_) (fun c_34 => ?_)
          · skip
            refine v_iinc (pc' := 42) (x := w) (ls' := [gR 41, gI g, gI t, gI (w + (-1))]) (by omega) (by decide) (by rfl) (by rfl) dX2_latestWorth_39 rfl ?_
            refine w_goto (pc' := 13) dX2_latestWorth_42 rfl ?_
            exact ih _ (by omega) (w + (-1)) rfl (by omega) (by omega) (by rw [he, lastI_miss (P := (fun w => σ 53 w = g ∧ σ 56 w ≤ t)) (w := w) (by omega) (by omega)]; congr 1; omega)
          · skip
            refine w_iload_n (pc' := 38) (i := 3) (by rfl) (by rfl) dX2_latestWorth_37 rfl ?_
            refine v_ireturn rfl dX2_latestWorth_38 ?_
            exact ⟨by rw [he, lastI_hit (P := (fun w => σ 53 w = g ∧ σ 56 w ≤ t)) (w := w) (by omega) ⟨by omega, by omega⟩], rfl⟩
  exact hl_13 _ ((if 200 < (σ 41 16) then 200 else (σ 41 16)) - 1) rfl (by split <;> omega) (by split <;> omega) (by rw [if_neg (by omega)]; unfold LW; congr 1; omega)
theorem g_leastOf (σ : gH) (hz : 0 ≤ σ 41 11 ∧ σ 41 11 ≤ 120 ∧ 0 ≤ σ 41 16 ∧ σ 41 16 ≤ 200) (g t : Int) (hg : 0 ≤ g ∧ g < σ 41 11) : Mt mX2_leastOf 2 [gR 41, gI g, gI t] σ (rE (gI (LEAST σ g t)) σ) := by
  refine Mt.walk (ls := [gR 41, gI g, gI t, gX 1]) pn_X2 rfl (fun _ _ h => by cases h.1) (Nat.le_of_ble_eq_true rfl) rfl ?_
  have hlw := LW_lt σ g t hz.2.2.1
  refine w_aload_n (pc' := 1) (i := 0) (by rfl) (by rfl) dX2_leastOf_0 rfl ?_
  refine w_iload_n (pc' := 2) (i := 1) (by rfl) (by rfl) dX2_leastOf_1 rfl ?_
  refine w_iload_n (pc' := 3) (i := 2) (by rfl) (by rfl) dX2_leastOf_2 rfl ?_
  refine v_callVE (pc' := 6) (st' := [gI (LW σ g t)]) (d' := 1) (av := [gI g, gI t]) mi_mX2_latestWorth lk_X2_75 rfl ci_X2 kd_41 rfl (Nat.le_of_ble_eq_true rfl) (Nat.le_of_ble_eq_true rfl) dX2_leastOf_3 rfl rfl (g_latestWorth σ hz g t) ?_
  refine w_istore_n (pc' := 7) (i := 3) (ls' := [gR 41, gI g, gI t, gI (LW σ g t)]) (by rfl) (by decide) (by rfl) dX2_leastOf_6 rfl ?_
  refine w_iload_n (pc' := 8) (i := 3) (by rfl) (by rfl) dX2_leastOf_7 rfl ?_
  refine w_if_lt (pc' := 11) (t := 18) dX2_leastOf_8 rfl rfl (fun c_8 => ?_) (fun c_8 => ?_)
  · skip
    refine w_aload_n (pc' := 19) (i := 0) (by rfl) (by rfl) dX2_leastOf_18 rfl ?_
    refine w_iload_n (pc' := 20) (i := 1) (by rfl) (by rfl) dX2_leastOf_19 rfl ?_
    refine v_callVE (pc' := 23) (st' := [gI (gb (0 ≤ g ∧ g < σ 41 11))]) (d' := 0) (av := [gI g]) mi_mX2_has lk_X2_62 rfl ci_X2 kd_41 rfl (Nat.le_of_ble_eq_true rfl) (Nat.le_of_ble_eq_true rfl) dX2_leastOf_20 rfl rfl (g_has σ hz g) ?_
    refine v_if_eqB (pc' := 26) (t := 35) dX2_leastOf_23 rfl rfl (fun c_23 => ?_) (fun c_23 => ?_)
    · skip
      refine w_iconst (pc' := 36) (by decide) dX2_leastOf_35 rfl ?_
      refine v_ireturn rfl dX2_leastOf_36 ?_
      first | (exfalso; omega) | exact ⟨by unfold LEAST; rw [if_neg (by omega)], rfl⟩
    · skip
      refine w_aload_n (pc' := 27) (i := 0) (by rfl) (by rfl) dX2_leastOf_26 rfl ?_
      refine w_getS (pc' := 30) (q := 47) fg_X2_28 kd_41 sf_X2_5 gr_41_5 dX2_leastOf_27 rfl ?_
      refine w_iload_n (pc' := 31) (i := 1) (by rfl) (by rfl) dX2_leastOf_30 rfl ?_
      refine w_iald (pc' := 32) kd_47 (by omega) (by omega) dX2_leastOf_31 rfl ?_
      refine w_goto (pc' := 36) dX2_leastOf_32 rfl ?_
      refine v_ireturn rfl dX2_leastOf_36 ?_
      first | (exfalso; omega) | exact ⟨by unfold LEAST; rw [if_neg (by omega)], rfl⟩
  · skip
    refine w_aload_n (pc' := 12) (i := 0) (by rfl) (by rfl) dX2_leastOf_11 rfl ?_
    refine w_getS (pc' := 15) (q := 54) fg_X2_49 kd_41 sf_X2_13 gr_41_13 dX2_leastOf_12 rfl ?_
    refine w_iload_n (pc' := 16) (i := 3) (by rfl) (by rfl) dX2_leastOf_15 rfl ?_
    refine w_iald (pc' := 17) kd_54 (by omega) (by omega) dX2_leastOf_16 rfl ?_
    refine v_ireturn rfl dX2_leastOf_17 ?_
    exact ⟨by unfold LEAST; rw [if_pos (by omega)], rfl⟩
theorem g_mostOf (σ : gH) (hz : 0 ≤ σ 41 11 ∧ σ 41 11 ≤ 120 ∧ 0 ≤ σ 41 16 ∧ σ 41 16 ≤ 200) (g t : Int) (hg : 0 ≤ g ∧ g < σ 41 11) : Mt mX2_mostOf 2 [gR 41, gI g, gI t] σ (rE (gI (MOST σ g t)) σ) := by
  refine Mt.walk (ls := [gR 41, gI g, gI t, gX 1]) pn_X2 rfl (fun _ _ h => by cases h.1) (Nat.le_of_ble_eq_true rfl) rfl ?_
  have hlw := LW_lt σ g t hz.2.2.1
  refine w_aload_n (pc' := 1) (i := 0) (by rfl) (by rfl) dX2_mostOf_0 rfl ?_
  refine w_iload_n (pc' := 2) (i := 1) (by rfl) (by rfl) dX2_mostOf_1 rfl ?_
  refine w_iload_n (pc' := 3) (i := 2) (by rfl) (by rfl) dX2_mostOf_2 rfl ?_
  refine v_callVE (pc' := 6) (st' := [gI (LW σ g t)]) (d' := 1) (av := [gI g, gI t]) mi_mX2_latestWorth lk_X2_75 rfl ci_X2 kd_41 rfl (Nat.le_of_ble_eq_true rfl) (Nat.le_of_ble_eq_true rfl) dX2_mostOf_3 rfl rfl (g_latestWorth σ hz g t) ?_
  refine w_istore_n (pc' := 7) (i := 3) (ls' := [gR 41, gI g, gI t, gI (LW σ g t)]) (by rfl) (by decide) (by rfl) dX2_mostOf_6 rfl ?_
  refine w_iload_n (pc' := 8) (i := 3) (by rfl) (by rfl) dX2_mostOf_7 rfl ?_
  refine w_if_lt (pc' := 11) (t := 18) dX2_mostOf_8 rfl rfl (fun c_8 => ?_) (fun c_8 => ?_)
  · skip
    refine w_aload_n (pc' := 19) (i := 0) (by rfl) (by rfl) dX2_mostOf_18 rfl ?_
    refine w_iload_n (pc' := 20) (i := 1) (by rfl) (by rfl) dX2_mostOf_19 rfl ?_
    refine v_callVE (pc' := 23) (st' := [gI (gb (0 ≤ g ∧ g < σ 41 11))]) (d' := 0) (av := [gI g]) mi_mX2_has lk_X2_62 rfl ci_X2 kd_41 rfl (Nat.le_of_ble_eq_true rfl) (Nat.le_of_ble_eq_true rfl) dX2_mostOf_20 rfl rfl (g_has σ hz g) ?_
    refine v_if_eqB (pc' := 26) (t := 35) dX2_mostOf_23 rfl rfl (fun c_23 => ?_) (fun c_23 => ?_)
    · skip
      refine w_iconst (pc' := 36) (by decide) dX2_mostOf_35 rfl ?_
      refine v_ireturn rfl dX2_mostOf_36 ?_
      first | (exfalso; omega) | exact ⟨by unfold MOST; rw [if_neg (by omega)], rfl⟩
    · skip
      refine w_aload_n (pc' := 27) (i := 0) (by rfl) (by rfl) dX2_mostOf_26 rfl ?_
      refine w_getS (pc' := 30) (q := 48) fg_X2_31 kd_41 sf_X2_6 gr_41_6 dX2_mostOf_27 rfl ?_
      refine w_iload_n (pc' := 31) (i := 1) (by rfl) (by rfl) dX2_mostOf_30 rfl ?_
      refine w_iald (pc' := 32) kd_48 (by omega) (by omega) dX2_mostOf_31 rfl ?_
      refine w_goto (pc' := 36) dX2_mostOf_32 rfl ?_
      refine v_ireturn rfl dX2_mostOf_36 ?_
      first | (exfalso; omega) | exact ⟨by unfold MOST; rw [if_neg (by omega)], rfl⟩
  · skip
    refine w_aload_n (pc' := 12) (i := 0) (by rfl) (by rfl) dX2_mostOf_11 rfl ?_
    refine w_getS (pc' := 15) (q := 55) fg_X2_52 kd_41 sf_X2_14 gr_41_14 dX2_mostOf_12 rfl ?_
    refine w_iload_n (pc' := 16) (i := 3) (by rfl) (by rfl) dX2_mostOf_15 rfl ?_
    refine w_iald (pc' := 17) kd_55 (by omega) (by omega) dX2_mostOf_16 rfl ?_
    refine v_ireturn rfl dX2_mostOf_17 ?_
    exact ⟨by unfold MOST; rw [if_pos (by omega)], rfl⟩
theorem g_backOn (σ : gH) (hz : 0 ≤ σ 41 11 ∧ σ 41 11 ≤ 120 ∧ 0 ≤ σ 41 16 ∧ σ 41 16 ≤ 200) (g t : Int) (hg : 0 ≤ g ∧ g < σ 41 11) : Mt mX2_backOn 1 [gR 41, gI g, gI t] σ (rE (gI (BACK σ g t)) σ) := by
  refine Mt.walk (ls := [gR 41, gI g, gI t]) pn_X2 rfl (fun _ _ h => by cases h.1) (Nat.le_of_ble_eq_true rfl) rfl ?_
  refine w_aload_n (pc' := 1) (i := 0) (by rfl) (by rfl) dX2_backOn_0 rfl ?_
  refine w_iload_n (pc' := 2) (i := 1) (by rfl) (by rfl) dX2_backOn_1 rfl ?_
  refine v_callVE (pc' := 5) (st' := [gI (gb (0 ≤ g ∧ g < σ 41 11))]) (d' := 0) (av := [gI g]) mi_mX2_has lk_X2_62 rfl ci_X2 kd_41 rfl (Nat.le_of_ble_eq_true rfl) (Nat.le_of_ble_eq_true rfl) dX2_backOn_2 rfl rfl (g_has σ hz g) ?_
  refine v_if_eqB (pc' := 8) (t := 37) dX2_backOn_5 rfl rfl (fun c_5 => ?_) (fun c_5 => ?_)
  · skip
    refine w_iconst (pc' := 38) (by decide) dX2_backOn_37 rfl ?_
    refine v_ireturn rfl dX2_backOn_38 ?_
    first | (exfalso; omega) | exact ⟨by congr 1; unfold BACK; split <;> omega, rfl⟩
  · skip
    refine w_aload_n (pc' := 9) (i := 0) (by rfl) (by rfl) dX2_backOn_8 rfl ?_
    refine w_getS (pc' := 12) (q := 50) fg_X2_37 kd_41 sf_X2_8 gr_41_8 dX2_backOn_9 rfl ?_
    refine w_iload_n (pc' := 13) (i := 1) (by rfl) (by rfl) dX2_backOn_12 rfl ?_
    refine w_iald (pc' := 14) kd_50 (by omega) (by omega) dX2_backOn_13 rfl ?_
    refine w_iconst (pc' := 15) (by decide) dX2_backOn_14 rfl ?_
    refine w_icmp_eq (pc' := 18) (t := 37) dX2_backOn_15 rfl rfl (fun c_15 => ?_) (fun c_15 => ?_)
    · skip
      refine w_iconst (pc' := 38) (by decide) dX2_backOn_37 rfl ?_
      refine v_ireturn rfl dX2_backOn_38 ?_
      first | (exfalso; omega) | exact ⟨by congr 1; unfold BACK; split <;> omega, rfl⟩
    · skip
      refine w_aload_n (pc' := 19) (i := 0) (by rfl) (by rfl) dX2_backOn_18 rfl ?_
      refine w_getS (pc' := 22) (q := 51) fg_X2_40 kd_41 sf_X2_9 gr_41_9 dX2_backOn_19 rfl ?_
      refine w_iload_n (pc' := 23) (i := 1) (by rfl) (by rfl) dX2_backOn_22 rfl ?_
      refine w_iald (pc' := 24) kd_51 (by omega) (by omega) dX2_backOn_23 rfl ?_
      refine w_iload_n (pc' := 25) (i := 2) (by rfl) (by rfl) dX2_backOn_24 rfl ?_
      refine w_icmp_gt (pc' := 28) (t := 37) dX2_backOn_25 rfl rfl (fun c_25 => ?_) (fun c_25 => ?_)
      · skip
        refine w_iconst (pc' := 38) (by decide) dX2_backOn_37 rfl ?_
        refine v_ireturn rfl dX2_backOn_38 ?_
        first | (exfalso; omega) | exact ⟨by congr 1; unfold BACK; split <;> omega, rfl⟩
      · skip
        refine w_aload_n (pc' := 29) (i := 0) (by rfl) (by rfl) dX2_backOn_28 rfl ?_
        refine w_getS (pc' := 32) (q := 50) fg_X2_37 kd_41 sf_X2_8 gr_41_8 dX2_backOn_29 rfl ?_
        refine w_iload_n (pc' := 33) (i := 1) (by rfl) (by rfl) dX2_backOn_32 rfl ?_
        refine w_iald (pc' := 34) kd_50 (by omega) (by omega) dX2_backOn_33 rfl ?_
        refine w_goto (pc' := 38) dX2_backOn_34 rfl ?_
        refine v_ireturn rfl dX2_backOn_38 ?_
        first | (exfalso; omega) | exact ⟨by congr 1; unfold BACK; split <;> omega, rfl⟩
theorem g_toldOn (σ : gH) (hz : 0 ≤ σ 41 11 ∧ σ 41 11 ≤ 120 ∧ 0 ≤ σ 41 16 ∧ σ 41 16 ≤ 200) (g t : Int) (hg : 0 ≤ g ∧ g < σ 41 11) : Mt mX2_toldOn 1 [gR 41, gI g, gI t] σ (rE (gI (TOLD σ g t)) σ) := by
  refine Mt.walk (ls := [gR 41, gI g, gI t]) pn_X2 rfl (fun _ _ h => by cases h.1) (Nat.le_of_ble_eq_true rfl) rfl ?_
  refine w_aload_n (pc' := 1) (i := 0) (by rfl) (by rfl) dX2_toldOn_0 rfl ?_
  refine w_iload_n (pc' := 2) (i := 1) (by rfl) (by rfl) dX2_toldOn_1 rfl ?_
  refine v_callVE (pc' := 5) (st' := [gI (gb (0 ≤ g ∧ g < σ 41 11))]) (d' := 0) (av := [gI g]) mi_mX2_has lk_X2_62 rfl ci_X2 kd_41 rfl (Nat.le_of_ble_eq_true rfl) (Nat.le_of_ble_eq_true rfl) dX2_toldOn_2 rfl rfl (g_has σ hz g) ?_
  refine v_if_eqB (pc' := 8) (t := 27) dX2_toldOn_5 rfl rfl (fun c_5 => ?_) (fun c_5 => ?_)
  · skip
    refine w_iconst (pc' := 28) (by decide) dX2_toldOn_27 rfl ?_
    refine v_ireturn rfl dX2_toldOn_28 ?_
    first | (exfalso; omega) | exact ⟨by congr 1; unfold TOLD; split <;> omega, rfl⟩
  · skip
    refine w_aload_n (pc' := 9) (i := 0) (by rfl) (by rfl) dX2_toldOn_8 rfl ?_
    refine w_getS (pc' := 12) (q := 52) fg_X2_43 kd_41 sf_X2_10 gr_41_10 dX2_toldOn_9 rfl ?_
    refine w_iload_n (pc' := 13) (i := 1) (by rfl) (by rfl) dX2_toldOn_12 rfl ?_
    refine w_iald (pc' := 14) kd_52 (by omega) (by omega) dX2_toldOn_13 rfl ?_
    refine w_iload_n (pc' := 15) (i := 2) (by rfl) (by rfl) dX2_toldOn_14 rfl ?_
    refine w_icmp_gt (pc' := 18) (t := 27) dX2_toldOn_15 rfl rfl (fun c_15 => ?_) (fun c_15 => ?_)
    · skip
      refine w_iconst (pc' := 28) (by decide) dX2_toldOn_27 rfl ?_
      refine v_ireturn rfl dX2_toldOn_28 ?_
      first | (exfalso; omega) | exact ⟨by congr 1; unfold TOLD; split <;> omega, rfl⟩
    · skip
      refine w_aload_n (pc' := 19) (i := 0) (by rfl) (by rfl) dX2_toldOn_18 rfl ?_
      refine w_getS (pc' := 22) (q := 52) fg_X2_43 kd_41 sf_X2_10 gr_41_10 dX2_toldOn_19 rfl ?_
      refine w_iload_n (pc' := 23) (i := 1) (by rfl) (by rfl) dX2_toldOn_22 rfl ?_
      refine w_iald (pc' := 24) kd_52 (by omega) (by omega) dX2_toldOn_23 rfl ?_
      refine w_goto (pc' := 28) dX2_toldOn_24 rfl ?_
      refine v_ireturn rfl dX2_toldOn_28 ?_
      first | (exfalso; omega) | exact ⟨by congr 1; unfold TOLD; split <;> omega, rfl⟩
theorem g_isBackBy (σ : gH) (hz : 0 ≤ σ 41 11 ∧ σ 41 11 ≤ 120 ∧ 0 ≤ σ 41 16 ∧ σ 41 16 ≤ 200) (g d t : Int) (hg : 0 ≤ g ∧ g < σ 41 11) : Mt mX2_isBackBy 2 [gR 41, gI g, gI d, gI t] σ (rE (gI (gb (BACK σ g t ≠ -1 ∧ BACK σ g t ≤ d))) σ) := by
  refine Mt.walk (ls := [gR 41, gI g, gI d, gI t, gX 1]) pn_X2 rfl (fun _ _ h => by cases h.1) (Nat.le_of_ble_eq_true rfl) rfl ?_
  refine w_aload_n (pc' := 1) (i := 0) (by rfl) (by rfl) dX2_isBackBy_0 rfl ?_
  refine w_iload_n (pc' := 2) (i := 1) (by rfl) (by rfl) dX2_isBackBy_1 rfl ?_
  refine w_iload_n (pc' := 3) (i := 3) (by rfl) (by rfl) dX2_isBackBy_2 rfl ?_
  refine v_callVE (pc' := 6) (st' := [gI (BACK σ g t)]) (d' := 1) (av := [gI g, gI t]) mi_mX2_backOn lk_X2_78 rfl ci_X2 kd_41 rfl (Nat.le_of_ble_eq_true rfl) (Nat.le_of_ble_eq_true rfl) dX2_isBackBy_3 rfl rfl (g_backOn σ hz g t (by first | assumption | omega)) ?_
  refine w_istore (pc' := 8) (ls' := [gR 41, gI g, gI d, gI t, gI (BACK σ g t)]) (by decide) (by rfl) dX2_isBackBy_6 rfl ?_
  refine w_iload (pc' := 10) (by rfl) dX2_isBackBy_8 rfl ?_
  refine w_iconst (pc' := 11) (by decide) dX2_isBackBy_10 rfl ?_
  refine w_icmp_eq (pc' := 14) (t := 24) dX2_isBackBy_11 rfl rfl (fun c_11 => ?_) (fun c_11 => ?_)
  · skip
    refine w_iconst (pc' := 25) (by decide) dX2_isBackBy_24 rfl ?_
    refine w_zreturn rfl (.inl rfl) dX2_isBackBy_25 ?_
    first | (exfalso; omega) | exact ⟨gbT (by omega), rfl⟩ | exact ⟨gbF (by omega), rfl⟩
  · skip
    refine w_iload (pc' := 16) (by rfl) dX2_isBackBy_14 rfl ?_
    refine w_iload_n (pc' := 17) (i := 2) (by rfl) (by rfl) dX2_isBackBy_16 rfl ?_
    refine w_icmp_gt (pc' := 20) (t := 24) dX2_isBackBy_17 rfl rfl (fun c_17 => ?_) (fun c_17 => ?_)
    · skip
      refine w_iconst (pc' := 25) (by decide) dX2_isBackBy_24 rfl ?_
      refine w_zreturn rfl (.inl rfl) dX2_isBackBy_25 ?_
      first | (exfalso; omega) | exact ⟨gbT (by omega), rfl⟩ | exact ⟨gbF (by omega), rfl⟩
    · skip
      refine w_iconst (pc' := 21) (by decide) dX2_isBackBy_20 rfl ?_
      refine w_goto (pc' := 25) dX2_isBackBy_21 rfl ?_
      refine w_zreturn rfl (.inr rfl) dX2_isBackBy_25 ?_
      first | (exfalso; omega) | exact ⟨gbT (by omega), rfl⟩ | exact ⟨gbF (by omega), rfl⟩
theorem g_addWorth (σ : gH) (hz : 0 ≤ σ 41 11 ∧ σ 41 11 ≤ 120 ∧ 0 ≤ σ 41 16 ∧ σ 41 16 ≤ 200) (g a b t : Int) : Mt mX2_addWorth 1 [gR 41, gI g, gI a, gI b, gI t] σ (rE (gI (gb ((0 ≤ g ∧ g < σ 41 11) ∧ σ 41 16 < 200))) (if (0 ≤ g ∧ g < σ 41 11) ∧ σ 41 16 < 200 then gUp (gUp (gUp (gUp (gUp σ 53 (σ 41 16) g) 54 (σ 41 16) a) 55 (σ 41 16) b) 56 (σ 41 16) t) 41 16 (σ 41 16 + 1) else σ)) := by
  refine Mt.walk (ls := [gR 41, gI g, gI a, gI b, gI t]) pn_X2 rfl (fun _ _ h => by cases h.1) (Nat.le_of_ble_eq_true rfl) rfl ?_
  refine w_aload_n (pc' := 1) (i := 0) (by rfl) (by rfl) dX2_addWorth_0 rfl ?_
  refine w_iload_n (pc' := 2) (i := 1) (by rfl) (by rfl) dX2_addWorth_1 rfl ?_
  refine v_callVE (pc' := 5) (st' := [gI (gb (0 ≤ g ∧ g < σ 41 11))]) (d' := 0) (av := [gI g]) mi_mX2_has lk_X2_62 rfl ci_X2 kd_41 rfl (Nat.le_of_ble_eq_true rfl) (Nat.le_of_ble_eq_true rfl) dX2_addWorth_2 rfl rfl (g_has σ hz g) ?_
  refine v_if_eqB (pc' := 8) (t := 25) dX2_addWorth_5 rfl rfl (fun c_5 => ?_) (fun c_5 => ?_)
  · skip
    refine w_iconst (pc' := 26) (by decide) dX2_addWorth_25 rfl ?_
    refine w_zreturn rfl (.inl rfl) dX2_addWorth_26 ?_
    by_cases hP : (0 ≤ g ∧ g < σ 41 11) ∧ σ 41 16 < 200
    · first | (exfalso; omega) | exact ⟨gbT hP, (if_pos hP).symm⟩
    · first | (exfalso; omega) | exact ⟨gbF hP, (if_neg hP).symm⟩
  · skip
    refine w_aload_n (pc' := 9) (i := 0) (by rfl) (by rfl) dX2_addWorth_8 rfl ?_
    refine v_getI (pc' := 12) (ji := 16) rfl fg_X2_66 kd_41 dX2_addWorth_9 rfl ?_
    refine w_if_lt (pc' := 15) (t := 25) dX2_addWorth_12 rfl rfl (fun c_12 => ?_) (fun c_12 => ?_)
    · skip
      refine w_iconst (pc' := 26) (by decide) dX2_addWorth_25 rfl ?_
      refine w_zreturn rfl (.inl rfl) dX2_addWorth_26 ?_
      by_cases hP : (0 ≤ g ∧ g < σ 41 11) ∧ σ 41 16 < 200
      · first | (exfalso; omega) | exact ⟨gbT hP, (if_pos hP).symm⟩
      · first | (exfalso; omega) | exact ⟨gbF hP, (if_neg hP).symm⟩
    · skip
      refine w_aload_n (pc' := 16) (i := 0) (by rfl) (by rfl) dX2_addWorth_15 rfl ?_
      refine v_getI (pc' := 19) (ji := 16) rfl fg_X2_66 kd_41 dX2_addWorth_16 rfl ?_
      refine w_sipush (pc' := 22) (by decide) (by decide) dX2_addWorth_19 rfl ?_
      refine w_icmp_lt (pc' := 25) (t := 27) dX2_addWorth_22 rfl rfl (fun c_22 => ?_) (fun c_22 => ?_)
      · skip
        refine w_aload_n (pc' := 28) (i := 0) (by rfl) (by rfl) dX2_addWorth_27 rfl ?_
        refine w_getS (pc' := 31) (q := 53) fg_X2_46 kd_41 sf_X2_12 gr_41_12 dX2_addWorth_28 rfl ?_
        refine w_aload_n (pc' := 32) (i := 0) (by rfl) (by rfl) dX2_addWorth_31 rfl ?_
        refine v_getI (pc' := 35) (ji := 16) rfl fg_X2_66 kd_41 dX2_addWorth_32 rfl ?_
        refine w_iload_n (pc' := 36) (i := 1) (by rfl) (by rfl) dX2_addWorth_35 rfl ?_
        refine w_iast (pc' := 37) kd_53 (by omega) (by omega) dX2_addWorth_36 rfl ?_
        refine w_aload_n (pc' := 38) (i := 0) (by rfl) (by rfl) dX2_addWorth_37 rfl ?_
        refine w_getS (pc' := 41) (q := 54) fg_X2_49 kd_41 sf_X2_13 gr_41_13 dX2_addWorth_38 rfl ?_
        refine w_aload_n (pc' := 42) (i := 0) (by rfl) (by rfl) dX2_addWorth_41 rfl ?_
        refine v_getI (pc' := 45) (ji := 16) rfl fg_X2_66 kd_41 dX2_addWorth_42 rfl ?_
        show Wp _ _ _ _ _ _ [gI (σ 41 16), gR 54]
        refine w_iload_n (pc' := 46) (i := 2) (by rfl) (by rfl) dX2_addWorth_45 rfl ?_
        refine w_iast (pc' := 47) kd_54 (by omega) (by omega) dX2_addWorth_46 rfl ?_
        refine w_aload_n (pc' := 48) (i := 0) (by rfl) (by rfl) dX2_addWorth_47 rfl ?_
        refine w_getS (pc' := 51) (q := 55) fg_X2_52 kd_41 sf_X2_14 gr_41_14 dX2_addWorth_48 rfl ?_
        refine w_aload_n (pc' := 52) (i := 0) (by rfl) (by rfl) dX2_addWorth_51 rfl ?_
        refine v_getI (pc' := 55) (ji := 16) rfl fg_X2_66 kd_41 dX2_addWorth_52 rfl ?_
        show Wp _ _ _ _ _ _ [gI (σ 41 16), gR 55]
        refine w_iload_n (pc' := 56) (i := 3) (by rfl) (by rfl) dX2_addWorth_55 rfl ?_
        refine w_iast (pc' := 57) kd_55 (by omega) (by omega) dX2_addWorth_56 rfl ?_
        refine w_aload_n (pc' := 58) (i := 0) (by rfl) (by rfl) dX2_addWorth_57 rfl ?_
        refine w_getS (pc' := 61) (q := 56) fg_X2_55 kd_41 sf_X2_15 gr_41_15 dX2_addWorth_58 rfl ?_
        refine w_aload_n (pc' := 62) (i := 0) (by rfl) (by rfl) dX2_addWorth_61 rfl ?_
        refine v_getI (pc' := 65) (ji := 16) rfl fg_X2_66 kd_41 dX2_addWorth_62 rfl ?_
        show Wp _ _ _ _ _ _ [gI (σ 41 16), gR 56]
        refine w_iload (pc' := 67) (by rfl) dX2_addWorth_65 rfl ?_
        refine w_iast (pc' := 68) kd_56 (by omega) (by omega) dX2_addWorth_67 rfl ?_
        refine w_aload_n (pc' := 69) (i := 0) (by rfl) (by rfl) dX2_addWorth_68 rfl ?_
        refine w_dup (pc' := 70) dX2_addWorth_69 rfl ?_
        refine v_getI (pc' := 73) (ji := 16) rfl fg_X2_66 kd_41 dX2_addWorth_70 rfl ?_
        show Wp _ _ _ _ _ _ [gI (σ 41 16), gR 41]
        refine w_iconst (pc' := 74) (by decide) dX2_addWorth_73 rfl ?_
        refine v_iadd (pc' := 75) (by omega) dX2_addWorth_74 rfl ?_
        refine v_putI (pc' := 78) (ji := 16) rfl fp_X2_66 kd_41 sf_X2_16 dX2_addWorth_75 rfl ?_
        refine w_iconst (pc' := 79) (by decide) dX2_addWorth_78 rfl ?_
        refine w_zreturn rfl (.inr rfl) dX2_addWorth_79 ?_
        by_cases hP : (0 ≤ g ∧ g < σ 41 11) ∧ σ 41 16 < 200
        · first | (exfalso; omega) | exact ⟨gbT hP, (if_pos hP).symm⟩
        · first | (exfalso; omega) | exact ⟨gbF hP, (if_neg hP).symm⟩
      · skip
        refine w_iconst (pc' := 26) (by decide) dX2_addWorth_25 rfl ?_
        refine w_zreturn rfl (.inl rfl) dX2_addWorth_26 ?_
        by_cases hP : (0 ≤ g ∧ g < σ 41 11) ∧ σ 41 16 < 200
        · first | (exfalso; omega) | exact ⟨gbT hP, (if_pos hP).symm⟩
        · first | (exfalso; omega) | exact ⟨gbF hP, (if_neg hP).symm⟩
theorem g_giveBack (σ : gH) (hz : 0 ≤ σ 41 11 ∧ σ 41 11 ≤ 120 ∧ 0 ≤ σ 41 16 ∧ σ 41 16 ≤ 200) (g d t : Int) : Mt mX2_giveBack 1 [gR 41, gI g, gI d, gI t] σ (rE (gI (gb (((0 ≤ g ∧ g < σ 41 11) ∧ σ 45 g ≤ d) ∧ σ 50 g = -1))) (if ((0 ≤ g ∧ g < σ 41 11) ∧ σ 45 g ≤ d) ∧ σ 50 g = -1 then gUp (gUp σ 50 g d) 51 g t else σ)) := by
  refine Mt.walk (ls := [gR 41, gI g, gI d, gI t]) pn_X2 rfl (fun _ _ h => by cases h.1) (Nat.le_of_ble_eq_true rfl) rfl ?_
  refine w_aload_n (pc' := 1) (i := 0) (by rfl) (by rfl) dX2_giveBack_0 rfl ?_
  refine w_iload_n (pc' := 2) (i := 1) (by rfl) (by rfl) dX2_giveBack_1 rfl ?_
  refine v_callVE (pc' := 5) (st' := [gI (gb (0 ≤ g ∧ g < σ 41 11))]) (d' := 0) (av := [gI g]) mi_mX2_has lk_X2_62 rfl ci_X2 kd_41 rfl (Nat.le_of_ble_eq_true rfl) (Nat.le_of_ble_eq_true rfl) dX2_giveBack_2 rfl rfl (g_has σ hz g) ?_
  refine v_if_eqB (pc' := 8) (t := 28) dX2_giveBack_5 rfl rfl (fun c_5 => ?_) (fun c_5 => ?_)
  · skip
    refine w_iconst (pc' := 29) (by decide) dX2_giveBack_28 rfl ?_
    refine w_zreturn rfl (.inl rfl) dX2_giveBack_29 ?_
    by_cases hP : ((0 ≤ g ∧ g < σ 41 11) ∧ σ 45 g ≤ d) ∧ σ 50 g = -1
    · first | (exfalso; omega) | exact ⟨gbT hP, (if_pos hP).symm⟩
    · first | (exfalso; omega) | exact ⟨gbF hP, (if_neg hP).symm⟩
  · skip
    refine w_iload_n (pc' := 9) (i := 2) (by rfl) (by rfl) dX2_giveBack_8 rfl ?_
    refine w_aload_n (pc' := 10) (i := 0) (by rfl) (by rfl) dX2_giveBack_9 rfl ?_
    refine w_getS (pc' := 13) (q := 45) fg_X2_21 kd_41 sf_X2_3 gr_41_3 dX2_giveBack_10 rfl ?_
    refine w_iload_n (pc' := 14) (i := 1) (by rfl) (by rfl) dX2_giveBack_13 rfl ?_
    refine w_iald (pc' := 15) kd_45 (by omega) (by omega) dX2_giveBack_14 rfl ?_
    refine w_icmp_lt (pc' := 18) (t := 28) dX2_giveBack_15 rfl rfl (fun c_15 => ?_) (fun c_15 => ?_)
    · skip
      refine w_iconst (pc' := 29) (by decide) dX2_giveBack_28 rfl ?_
      refine w_zreturn rfl (.inl rfl) dX2_giveBack_29 ?_
      by_cases hP : ((0 ≤ g ∧ g < σ 41 11) ∧ σ 45 g ≤ d) ∧ σ 50 g = -1
      · first | (exfalso; omega) | exact ⟨gbT hP, (if_pos hP).symm⟩
      · first | (exfalso; omega) | exact ⟨gbF hP, (if_neg hP).symm⟩
    · skip
      refine w_aload_n (pc' := 19) (i := 0) (by rfl) (by rfl) dX2_giveBack_18 rfl ?_
      refine w_getS (pc' := 22) (q := 50) fg_X2_37 kd_41 sf_X2_8 gr_41_8 dX2_giveBack_19 rfl ?_
      refine w_iload_n (pc' := 23) (i := 1) (by rfl) (by rfl) dX2_giveBack_22 rfl ?_
      refine w_iald (pc' := 24) kd_50 (by omega) (by omega) dX2_giveBack_23 rfl ?_
      refine w_iconst (pc' := 25) (by decide) dX2_giveBack_24 rfl ?_
      refine w_icmp_eq (pc' := 28) (t := 30) dX2_giveBack_25 rfl rfl (fun c_25 => ?_) (fun c_25 => ?_)
      · skip
        refine w_aload_n (pc' := 31) (i := 0) (by rfl) (by rfl) dX2_giveBack_30 rfl ?_
        refine w_getS (pc' := 34) (q := 50) fg_X2_37 kd_41 sf_X2_8 gr_41_8 dX2_giveBack_31 rfl ?_
        refine w_iload_n (pc' := 35) (i := 1) (by rfl) (by rfl) dX2_giveBack_34 rfl ?_
        refine w_iload_n (pc' := 36) (i := 2) (by rfl) (by rfl) dX2_giveBack_35 rfl ?_
        refine w_iast (pc' := 37) kd_50 (by omega) (by omega) dX2_giveBack_36 rfl ?_
        refine w_aload_n (pc' := 38) (i := 0) (by rfl) (by rfl) dX2_giveBack_37 rfl ?_
        refine w_getS (pc' := 41) (q := 51) fg_X2_40 kd_41 sf_X2_9 gr_41_9 dX2_giveBack_38 rfl ?_
        refine w_iload_n (pc' := 42) (i := 1) (by rfl) (by rfl) dX2_giveBack_41 rfl ?_
        refine w_iload_n (pc' := 43) (i := 3) (by rfl) (by rfl) dX2_giveBack_42 rfl ?_
        refine w_iast (pc' := 44) kd_51 (by omega) (by omega) dX2_giveBack_43 rfl ?_
        refine w_iconst (pc' := 45) (by decide) dX2_giveBack_44 rfl ?_
        refine w_zreturn rfl (.inr rfl) dX2_giveBack_45 ?_
        by_cases hP : ((0 ≤ g ∧ g < σ 41 11) ∧ σ 45 g ≤ d) ∧ σ 50 g = -1
        · first | (exfalso; omega) | exact ⟨gbT hP, (if_pos hP).symm⟩
        · first | (exfalso; omega) | exact ⟨gbF hP, (if_neg hP).symm⟩
      · skip
        refine w_iconst (pc' := 29) (by decide) dX2_giveBack_28 rfl ?_
        refine w_zreturn rfl (.inl rfl) dX2_giveBack_29 ?_
        by_cases hP : ((0 ≤ g ∧ g < σ 41 11) ∧ σ 45 g ≤ d) ∧ σ 50 g = -1
        · first | (exfalso; omega) | exact ⟨gbT hP, (if_pos hP).symm⟩
        · first | (exfalso; omega) | exact ⟨gbF hP, (if_neg hP).symm⟩
theorem g_noteTold (σ : gH) (hz : 0 ≤ σ 41 11 ∧ σ 41 11 ≤ 120 ∧ 0 ≤ σ 41 16 ∧ σ 41 16 ≤ 200) (g d : Int) : Mt mX2_noteTold 1 [gR 41, gI g, gI d] σ (rE (gI (gb ((0 ≤ g ∧ g < σ 41 11) ∧ σ 52 g = -1))) (if (0 ≤ g ∧ g < σ 41 11) ∧ σ 52 g = -1 then gUp σ 52 g d else σ)) := by
  refine Mt.walk (ls := [gR 41, gI g, gI d]) pn_X2 rfl (fun _ _ h => by cases h.1) (Nat.le_of_ble_eq_true rfl) rfl ?_
  refine w_aload_n (pc' := 1) (i := 0) (by rfl) (by rfl) dX2_noteTold_0 rfl ?_
  refine w_iload_n (pc' := 2) (i := 1) (by rfl) (by rfl) dX2_noteTold_1 rfl ?_
  refine v_callVE (pc' := 5) (st' := [gI (gb (0 ≤ g ∧ g < σ 41 11))]) (d' := 0) (av := [gI g]) mi_mX2_has lk_X2_62 rfl ci_X2 kd_41 rfl (Nat.le_of_ble_eq_true rfl) (Nat.le_of_ble_eq_true rfl) dX2_noteTold_2 rfl rfl (g_has σ hz g) ?_
  refine v_if_eqB (pc' := 8) (t := 18) dX2_noteTold_5 rfl rfl (fun c_5 => ?_) (fun c_5 => ?_)
  · skip
    refine w_iconst (pc' := 19) (by decide) dX2_noteTold_18 rfl ?_
    refine w_zreturn rfl (.inl rfl) dX2_noteTold_19 ?_
    by_cases hP : (0 ≤ g ∧ g < σ 41 11) ∧ σ 52 g = -1
    · first | (exfalso; omega) | exact ⟨gbT hP, (if_pos hP).symm⟩
    · first | (exfalso; omega) | exact ⟨gbF hP, (if_neg hP).symm⟩
  · skip
    refine w_aload_n (pc' := 9) (i := 0) (by rfl) (by rfl) dX2_noteTold_8 rfl ?_
    refine w_getS (pc' := 12) (q := 52) fg_X2_43 kd_41 sf_X2_10 gr_41_10 dX2_noteTold_9 rfl ?_
    refine w_iload_n (pc' := 13) (i := 1) (by rfl) (by rfl) dX2_noteTold_12 rfl ?_
    refine w_iald (pc' := 14) kd_52 (by omega) (by omega) dX2_noteTold_13 rfl ?_
    refine w_iconst (pc' := 15) (by decide) dX2_noteTold_14 rfl ?_
    refine w_icmp_eq (pc' := 18) (t := 20) dX2_noteTold_15 rfl rfl (fun c_15 => ?_) (fun c_15 => ?_)
    · skip
      refine w_aload_n (pc' := 21) (i := 0) (by rfl) (by rfl) dX2_noteTold_20 rfl ?_
      refine w_getS (pc' := 24) (q := 52) fg_X2_43 kd_41 sf_X2_10 gr_41_10 dX2_noteTold_21 rfl ?_
      refine w_iload_n (pc' := 25) (i := 1) (by rfl) (by rfl) dX2_noteTold_24 rfl ?_
      refine w_iload_n (pc' := 26) (i := 2) (by rfl) (by rfl) dX2_noteTold_25 rfl ?_
      refine w_iast (pc' := 27) kd_52 (by omega) (by omega) dX2_noteTold_26 rfl ?_
      refine w_iconst (pc' := 28) (by decide) dX2_noteTold_27 rfl ?_
      refine w_zreturn rfl (.inr rfl) dX2_noteTold_28 ?_
      by_cases hP : (0 ≤ g ∧ g < σ 41 11) ∧ σ 52 g = -1
      · first | (exfalso; omega) | exact ⟨gbT hP, (if_pos hP).symm⟩
      · first | (exfalso; omega) | exact ⟨gbF hP, (if_neg hP).symm⟩
    · skip
      refine w_iconst (pc' := 19) (by decide) dX2_noteTold_18 rfl ?_
      refine w_zreturn rfl (.inl rfl) dX2_noteTold_19 ?_
      by_cases hP : (0 ≤ g ∧ g < σ 41 11) ∧ σ 52 g = -1
      · first | (exfalso; omega) | exact ⟨gbT hP, (if_pos hP).symm⟩
      · first | (exfalso; omega) | exact ⟨gbF hP, (if_neg hP).symm⟩
theorem g_add (σ : gH) (hz : 0 ≤ σ 41 11 ∧ σ 41 11 ≤ 120 ∧ 0 ≤ σ 41 16 ∧ σ 41 16 ≤ 200) (g r k d t : Int) : Mt mX2_add 0 [gR 41, gI g, gI r, gI k, gI d, gI t] σ (rE (gI (if σ 41 11 < 120 then σ 41 11 else -1)) (if σ 41 11 < 120 then gUp (gUp (gUp (gUp (gUp (gUp (gUp (gUp σ 42 (σ 41 11) g) 43 (σ 41 11) r) 44 (σ 41 11) k) 45 (σ 41 11) d) 49 (σ 41 11) t) 50 (σ 41 11) (-1)) 52 (σ 41 11) (-1)) 41 11 (σ 41 11 + 1) else σ)) := by
  refine Mt.walk (ls := [gR 41, gI g, gI r, gI k, gI d, gI t]) pn_X2 rfl (fun _ _ h => by cases h.1) (Nat.le_of_ble_eq_true rfl) rfl ?_
  refine w_aload_n (pc' := 1) (i := 0) (by rfl) (by rfl) dX2_add_0 rfl ?_
  refine v_getI (pc' := 4) (ji := 11) rfl fg_X2_58 kd_41 dX2_add_1 rfl ?_
  refine w_if_lt (pc' := 7) (t := 16) dX2_add_4 rfl rfl (fun c_4 => ?_) (fun c_4 => ?_)
  · skip
    refine w_iconst (pc' := 17) (by decide) dX2_add_16 rfl ?_
    refine v_ireturn rfl dX2_add_17 ?_
    exact ⟨by rw [if_neg (by omega)], by rw [if_neg (by omega)]⟩
  · skip
    refine w_aload_n (pc' := 8) (i := 0) (by rfl) (by rfl) dX2_add_7 rfl ?_
    refine v_getI (pc' := 11) (ji := 11) rfl fg_X2_58 kd_41 dX2_add_8 rfl ?_
    refine w_bipush (pc' := 13) (by decide) (by decide) dX2_add_11 rfl ?_
    refine w_icmp_lt (pc' := 16) (t := 18) dX2_add_13 rfl rfl (fun c_13 => ?_) (fun c_13 => ?_)
    · skip
      refine w_aload_n (pc' := 19) (i := 0) (by rfl) (by rfl) dX2_add_18 rfl ?_
      refine w_getS (pc' := 22) (q := 42) fg_X2_9 kd_41 sf_X2_0 gr_41_0 dX2_add_19 rfl ?_
      refine w_aload_n (pc' := 23) (i := 0) (by rfl) (by rfl) dX2_add_22 rfl ?_
      refine v_getI (pc' := 26) (ji := 11) rfl fg_X2_58 kd_41 dX2_add_23 rfl ?_
      refine w_iload_n (pc' := 27) (i := 1) (by rfl) (by rfl) dX2_add_26 rfl ?_
      refine w_iast (pc' := 28) kd_42 (by omega) (by omega) dX2_add_27 rfl ?_
      refine w_aload_n (pc' := 29) (i := 0) (by rfl) (by rfl) dX2_add_28 rfl ?_
      refine w_getS (pc' := 32) (q := 43) fg_X2_15 kd_41 sf_X2_1 gr_41_1 dX2_add_29 rfl ?_
      refine w_aload_n (pc' := 33) (i := 0) (by rfl) (by rfl) dX2_add_32 rfl ?_
      refine v_getI (pc' := 36) (ji := 11) rfl fg_X2_58 kd_41 dX2_add_33 rfl ?_
      show Wp _ _ _ _ _ _ [gI (σ 41 11), gR 43]
      refine w_iload_n (pc' := 37) (i := 2) (by rfl) (by rfl) dX2_add_36 rfl ?_
      refine w_iast (pc' := 38) kd_43 (by omega) (by omega) dX2_add_37 rfl ?_
      refine w_aload_n (pc' := 39) (i := 0) (by rfl) (by rfl) dX2_add_38 rfl ?_
      refine w_getS (pc' := 42) (q := 44) fg_X2_18 kd_41 sf_X2_2 gr_41_2 dX2_add_39 rfl ?_
      refine w_aload_n (pc' := 43) (i := 0) (by rfl) (by rfl) dX2_add_42 rfl ?_
      refine v_getI (pc' := 46) (ji := 11) rfl fg_X2_58 kd_41 dX2_add_43 rfl ?_
      show Wp _ _ _ _ _ _ [gI (σ 41 11), gR 44]
      refine w_iload_n (pc' := 47) (i := 3) (by rfl) (by rfl) dX2_add_46 rfl ?_
      refine w_iast (pc' := 48) kd_44 (by omega) (by omega) dX2_add_47 rfl ?_
      refine w_aload_n (pc' := 49) (i := 0) (by rfl) (by rfl) dX2_add_48 rfl ?_
      refine w_getS (pc' := 52) (q := 45) fg_X2_21 kd_41 sf_X2_3 gr_41_3 dX2_add_49 rfl ?_
      refine w_aload_n (pc' := 53) (i := 0) (by rfl) (by rfl) dX2_add_52 rfl ?_
      refine v_getI (pc' := 56) (ji := 11) rfl fg_X2_58 kd_41 dX2_add_53 rfl ?_
      show Wp _ _ _ _ _ _ [gI (σ 41 11), gR 45]
      refine w_iload (pc' := 58) (by rfl) dX2_add_56 rfl ?_
      refine w_iast (pc' := 59) kd_45 (by omega) (by omega) dX2_add_58 rfl ?_
      refine w_aload_n (pc' := 60) (i := 0) (by rfl) (by rfl) dX2_add_59 rfl ?_
      refine w_getS (pc' := 63) (q := 49) fg_X2_34 kd_41 sf_X2_7 gr_41_7 dX2_add_60 rfl ?_
      refine w_aload_n (pc' := 64) (i := 0) (by rfl) (by rfl) dX2_add_63 rfl ?_
      refine v_getI (pc' := 67) (ji := 11) rfl fg_X2_58 kd_41 dX2_add_64 rfl ?_
      show Wp _ _ _ _ _ _ [gI (σ 41 11), gR 49]
      refine w_iload (pc' := 69) (by rfl) dX2_add_67 rfl ?_
      refine w_iast (pc' := 70) kd_49 (by omega) (by omega) dX2_add_69 rfl ?_
      refine w_aload_n (pc' := 71) (i := 0) (by rfl) (by rfl) dX2_add_70 rfl ?_
      refine w_getS (pc' := 74) (q := 50) fg_X2_37 kd_41 sf_X2_8 gr_41_8 dX2_add_71 rfl ?_
      refine w_aload_n (pc' := 75) (i := 0) (by rfl) (by rfl) dX2_add_74 rfl ?_
      refine v_getI (pc' := 78) (ji := 11) rfl fg_X2_58 kd_41 dX2_add_75 rfl ?_
      show Wp _ _ _ _ _ _ [gI (σ 41 11), gR 50]
      refine w_iconst (pc' := 79) (by decide) dX2_add_78 rfl ?_
      refine w_iast (pc' := 80) kd_50 (by omega) (by omega) dX2_add_79 rfl ?_
      refine w_aload_n (pc' := 81) (i := 0) (by rfl) (by rfl) dX2_add_80 rfl ?_
      refine w_getS (pc' := 84) (q := 52) fg_X2_43 kd_41 sf_X2_10 gr_41_10 dX2_add_81 rfl ?_
      refine w_aload_n (pc' := 85) (i := 0) (by rfl) (by rfl) dX2_add_84 rfl ?_
      refine v_getI (pc' := 88) (ji := 11) rfl fg_X2_58 kd_41 dX2_add_85 rfl ?_
      show Wp _ _ _ _ _ _ [gI (σ 41 11), gR 52]
      refine w_iconst (pc' := 89) (by decide) dX2_add_88 rfl ?_
      refine w_iast (pc' := 90) kd_52 (by omega) (by omega) dX2_add_89 rfl ?_
      refine w_aload_n (pc' := 91) (i := 0) (by rfl) (by rfl) dX2_add_90 rfl ?_
      refine w_dup (pc' := 92) dX2_add_91 rfl ?_
      refine v_getI (pc' := 95) (ji := 11) rfl fg_X2_58 kd_41 dX2_add_92 rfl ?_
      show Wp _ _ _ _ _ _ [gI (σ 41 11), gR 41]
      refine w_iconst (pc' := 96) (by decide) dX2_add_95 rfl ?_
      refine v_iadd (pc' := 97) (by omega) dX2_add_96 rfl ?_
      refine v_putI (pc' := 100) (ji := 11) rfl fp_X2_58 kd_41 sf_X2_11 dX2_add_97 rfl ?_
      refine w_aload_n (pc' := 101) (i := 0) (by rfl) (by rfl) dX2_add_100 rfl ?_
      refine v_getI (pc' := 104) (ji := 11) rfl fg_X2_58 kd_41 dX2_add_101 rfl ?_
      show Wp _ _ _ _ _ _ [gI ((σ 41 11) + 1)]
      refine w_iconst (pc' := 105) (by decide) dX2_add_104 rfl ?_
      refine v_isub (pc' := 106) (by omega) dX2_add_105 rfl ?_
      refine v_ireturn rfl dX2_add_106 ?_
      exact ⟨by rw [if_pos (by omega)]; congr 1; omega, by rw [if_pos (by omega)]⟩
    · skip
      refine w_iconst (pc' := 17) (by decide) dX2_add_16 rfl ?_
      refine v_ireturn rfl dX2_add_17 ?_
      exact ⟨by rw [if_neg (by omega)], by rw [if_neg (by omega)]⟩
