/-! the class reads a law: the small methods (gen/mod_lw1.py) -/
abbrev atmK (b w : Int) : Prop := (b ≠ 0 ∧ 0 ≤ w ∧ w ≤ 10) ∨ (b = 0 ∧ 8 ≤ w ∧ w ≤ 13)
def GRF (w : Int) : Int := if w = 8 then 4 else if w = 23 then 3650 else if w = 25 then 12 else 999
/-- what waits last -/
def LWT (W : Int → Int) (n : Int) : Int := if 0 < n then W (n - 1) else -1
theorem LWT_in (W : Int → Int) (n : Int) : (0 < n ∧ LWT W n = W (n - 1)) ∨ (n ≤ 0 ∧ LWT W n = -1) := by
  unfold LWT
  split <;> omega
theorem kl_isAtom {σ : gH} (w : Int) : Mt mX5_isAtom 0 [gR 57, gI w] σ (rE (gI (gb (atmK (σ 57 11) w))) σ) := by
  refine Mt.walk (ls := [gR 57, gI w]) pn_X5 rfl (fun _ _ h => by cases h.1) (Nat.le_of_ble_eq_true rfl) rfl ?_
  refine w_aload_n (pc' := 1) (i := 0) (by rfl) (by rfl) dX5_isAtom_0 rfl ?_
  refine v_getZ (pc' := 4) (ji := 11) rfl fg_X5_136 kd_57 dX5_isAtom_1 rfl ?_
  refine w_if_eq (pc' := 7) (t := 25) dX5_isAtom_4 rfl rfl (fun c_4 => ?_) (fun c_4 => ?_)
  · skip
    refine w_iload_n (pc' := 26) (i := 1) (by rfl) (by rfl) dX5_isAtom_25 rfl ?_
    refine w_bipush (pc' := 28) (by decide) (by decide) dX5_isAtom_26 rfl ?_
    refine w_icmp_lt (pc' := 31) (t := 41) dX5_isAtom_28 rfl rfl (fun c_28 => ?_) (fun c_28 => ?_)
    · skip
      refine w_iconst (pc' := 42) (by decide) dX5_isAtom_41 rfl ?_
      refine w_zreturn rfl (.inl rfl) dX5_isAtom_42 ?_
      first | (exfalso; omega) | exact ⟨congrArg gI (gb_t (by omega)).symm, rfl⟩ | exact ⟨congrArg gI (gb_f (by omega)).symm, rfl⟩
    · skip
      refine w_iload_n (pc' := 32) (i := 1) (by rfl) (by rfl) dX5_isAtom_31 rfl ?_
      refine w_bipush (pc' := 34) (by decide) (by decide) dX5_isAtom_32 rfl ?_
      refine w_icmp_gt (pc' := 37) (t := 41) dX5_isAtom_34 rfl rfl (fun c_34 => ?_) (fun c_34 => ?_)
      · skip
        refine w_iconst (pc' := 42) (by decide) dX5_isAtom_41 rfl ?_
        refine w_zreturn rfl (.inl rfl) dX5_isAtom_42 ?_
        first | (exfalso; omega) | exact ⟨congrArg gI (gb_t (by omega)).symm, rfl⟩ | exact ⟨congrArg gI (gb_f (by omega)).symm, rfl⟩
      · skip
        refine w_iconst (pc' := 38) (by decide) dX5_isAtom_37 rfl ?_
        refine w_goto (pc' := 42) dX5_isAtom_38 rfl ?_
        refine w_zreturn rfl (.inr rfl) dX5_isAtom_42 ?_
        first | (exfalso; omega) | exact ⟨congrArg gI (gb_t (by omega)).symm, rfl⟩ | exact ⟨congrArg gI (gb_f (by omega)).symm, rfl⟩
  · skip
    refine w_iload_n (pc' := 8) (i := 1) (by rfl) (by rfl) dX5_isAtom_7 rfl ?_
    refine w_if_lt (pc' := 11) (t := 21) dX5_isAtom_8 rfl rfl (fun c_8 => ?_) (fun c_8 => ?_)
    · skip
      refine w_iconst (pc' := 22) (by decide) dX5_isAtom_21 rfl ?_
      refine w_goto (pc' := 42) dX5_isAtom_22 rfl ?_
      refine w_zreturn rfl (.inl rfl) dX5_isAtom_42 ?_
      first | (exfalso; omega) | exact ⟨congrArg gI (gb_t (by omega)).symm, rfl⟩ | exact ⟨congrArg gI (gb_f (by omega)).symm, rfl⟩
    · skip
      refine w_iload_n (pc' := 12) (i := 1) (by rfl) (by rfl) dX5_isAtom_11 rfl ?_
      refine w_bipush (pc' := 14) (by decide) (by decide) dX5_isAtom_12 rfl ?_
      refine w_icmp_gt (pc' := 17) (t := 21) dX5_isAtom_14 rfl rfl (fun c_14 => ?_) (fun c_14 => ?_)
      · skip
        refine w_iconst (pc' := 22) (by decide) dX5_isAtom_21 rfl ?_
        refine w_goto (pc' := 42) dX5_isAtom_22 rfl ?_
        refine w_zreturn rfl (.inl rfl) dX5_isAtom_42 ?_
        first | (exfalso; omega) | exact ⟨congrArg gI (gb_t (by omega)).symm, rfl⟩ | exact ⟨congrArg gI (gb_f (by omega)).symm, rfl⟩
      · skip
        refine w_iconst (pc' := 18) (by decide) dX5_isAtom_17 rfl ?_
        refine w_goto (pc' := 42) dX5_isAtom_18 rfl ?_
        refine w_zreturn rfl (.inr rfl) dX5_isAtom_42 ?_
        first | (exfalso; omega) | exact ⟨congrArg gI (gb_t (by omega)).symm, rfl⟩ | exact ⟨congrArg gI (gb_f (by omega)).symm, rfl⟩
theorem kl_isCompared {σ : gH} (w : Int) : Mt mX5_isCompared 0 [gI w] σ (rE (gI (gb (isMeas w))) σ) := by
  refine Mt.walk (ls := [gI w]) pn_X5 rfl (fun _ _ h => by cases h.1) (Nat.le_of_ble_eq_true rfl) rfl ?_
  refine w_iload_n (pc' := 1) (i := 0) (by rfl) (by rfl) dX5_isCompared_0 rfl ?_
  refine w_bipush (pc' := 3) (by decide) (by decide) dX5_isCompared_1 rfl ?_
  refine w_icmp_eq (pc' := 6) (t := 36) dX5_isCompared_3 rfl rfl (fun c_3 => ?_) (fun c_3 => ?_)
  · skip
    refine w_iconst (pc' := 37) (by decide) dX5_isCompared_36 rfl ?_
    refine w_goto (pc' := 41) dX5_isCompared_37 rfl ?_
    refine w_zreturn rfl (.inr rfl) dX5_isCompared_41 ?_
    first | (exfalso; omega) | exact ⟨congrArg gI (gb_t (by omega)).symm, rfl⟩ | exact ⟨congrArg gI (gb_f (by omega)).symm, rfl⟩
  · skip
    refine w_iload_n (pc' := 7) (i := 0) (by rfl) (by rfl) dX5_isCompared_6 rfl ?_
    refine w_bipush (pc' := 9) (by decide) (by decide) dX5_isCompared_7 rfl ?_
    refine w_icmp_eq (pc' := 12) (t := 36) dX5_isCompared_9 rfl rfl (fun c_9 => ?_) (fun c_9 => ?_)
    · skip
      refine w_iconst (pc' := 37) (by decide) dX5_isCompared_36 rfl ?_
      refine w_goto (pc' := 41) dX5_isCompared_37 rfl ?_
      refine w_zreturn rfl (.inr rfl) dX5_isCompared_41 ?_
      first | (exfalso; omega) | exact ⟨congrArg gI (gb_t (by omega)).symm, rfl⟩ | exact ⟨congrArg gI (gb_f (by omega)).symm, rfl⟩
    · skip
      refine w_iload_n (pc' := 13) (i := 0) (by rfl) (by rfl) dX5_isCompared_12 rfl ?_
      refine w_bipush (pc' := 15) (by decide) (by decide) dX5_isCompared_13 rfl ?_
      refine w_icmp_eq (pc' := 18) (t := 36) dX5_isCompared_15 rfl rfl (fun c_15 => ?_) (fun c_15 => ?_)
      · skip
        refine w_iconst (pc' := 37) (by decide) dX5_isCompared_36 rfl ?_
        refine w_goto (pc' := 41) dX5_isCompared_37 rfl ?_
        refine w_zreturn rfl (.inr rfl) dX5_isCompared_41 ?_
        first | (exfalso; omega) | exact ⟨congrArg gI (gb_t (by omega)).symm, rfl⟩ | exact ⟨congrArg gI (gb_f (by omega)).symm, rfl⟩
      · skip
        refine w_iload_n (pc' := 19) (i := 0) (by rfl) (by rfl) dX5_isCompared_18 rfl ?_
        refine w_bipush (pc' := 21) (by decide) (by decide) dX5_isCompared_19 rfl ?_
        refine w_icmp_eq (pc' := 24) (t := 36) dX5_isCompared_21 rfl rfl (fun c_21 => ?_) (fun c_21 => ?_)
        · skip
          refine w_iconst (pc' := 37) (by decide) dX5_isCompared_36 rfl ?_
          refine w_goto (pc' := 41) dX5_isCompared_37 rfl ?_
          refine w_zreturn rfl (.inr rfl) dX5_isCompared_41 ?_
          first | (exfalso; omega) | exact ⟨congrArg gI (gb_t (by omega)).symm, rfl⟩ | exact ⟨congrArg gI (gb_f (by omega)).symm, rfl⟩
        · skip
          refine w_iload_n (pc' := 25) (i := 0) (by rfl) (by rfl) dX5_isCompared_24 rfl ?_
          refine w_bipush (pc' := 27) (by decide) (by decide) dX5_isCompared_25 rfl ?_
          refine w_icmp_eq (pc' := 30) (t := 36) dX5_isCompared_27 rfl rfl (fun c_27 => ?_) (fun c_27 => ?_)
          · skip
            refine w_iconst (pc' := 37) (by decide) dX5_isCompared_36 rfl ?_
            refine w_goto (pc' := 41) dX5_isCompared_37 rfl ?_
            refine w_zreturn rfl (.inr rfl) dX5_isCompared_41 ?_
            first | (exfalso; omega) | exact ⟨congrArg gI (gb_t (by omega)).symm, rfl⟩ | exact ⟨congrArg gI (gb_f (by omega)).symm, rfl⟩
          · skip
            refine w_iload_n (pc' := 31) (i := 0) (by rfl) (by rfl) dX5_isCompared_30 rfl ?_
            refine w_bipush (pc' := 33) (by decide) (by decide) dX5_isCompared_31 rfl ?_
            refine w_icmp_ne (pc' := 36) (t := 40) dX5_isCompared_33 rfl rfl (fun c_33 => ?_) (fun c_33 => ?_)
            · skip
              refine w_iconst (pc' := 41) (by decide) dX5_isCompared_40 rfl ?_
              refine w_zreturn rfl (.inl rfl) dX5_isCompared_41 ?_
              first | (exfalso; omega) | exact ⟨congrArg gI (gb_t (by omega)).symm, rfl⟩ | exact ⟨congrArg gI (gb_f (by omega)).symm, rfl⟩
            · skip
              refine w_iconst (pc' := 37) (by decide) dX5_isCompared_36 rfl ?_
              refine w_goto (pc' := 41) dX5_isCompared_37 rfl ?_
              refine w_zreturn rfl (.inr rfl) dX5_isCompared_41 ?_
              first | (exfalso; omega) | exact ⟨congrArg gI (gb_t (by omega)).symm, rfl⟩ | exact ⟨congrArg gI (gb_f (by omega)).symm, rfl⟩
theorem kl_greatestFor {σ : gH} (w : Int) : Mt mX5_greatestFor 0 [gI w] σ (rE (gI (GRF w)) σ) := by
  refine Mt.walk (ls := [gI w]) pn_X5 rfl (fun _ _ h => by cases h.1) (Nat.le_of_ble_eq_true rfl) rfl ?_
  refine w_iload_n (pc' := 1) (i := 0) (by rfl) (by rfl) dX5_greatestFor_0 rfl ?_
  by_cases c_1_8 : w = 8
  · refine w_lookup (pc' := 36) (off := 35) dX5_greatestFor_1 (by decide) (by rw [c_1_8]; rfl) rfl ?_
    refine w_iconst (pc' := 37) (by decide) dX5_greatestFor_36 rfl ?_
    refine v_ireturn rfl dX5_greatestFor_37 ?_
    exact ⟨congrArg gI (by unfold GRF; (repeat' split) <;> omega), rfl⟩
  by_cases c_1_23 : w = 23
  · refine w_lookup (pc' := 38) (off := 37) dX5_greatestFor_1 (by decide) (by rw [c_1_23]; rfl) rfl ?_
    refine w_sipush (pc' := 41) (by decide) (by decide) dX5_greatestFor_38 rfl ?_
    refine v_ireturn rfl dX5_greatestFor_41 ?_
    exact ⟨congrArg gI (by unfold GRF; (repeat' split) <;> omega), rfl⟩
  by_cases c_1_25 : w = 25
  · refine w_lookup (pc' := 42) (off := 41) dX5_greatestFor_1 (by decide) (by rw [c_1_25]; rfl) rfl ?_
    refine w_bipush (pc' := 44) (by decide) (by decide) dX5_greatestFor_42 rfl ?_
    refine v_ireturn rfl dX5_greatestFor_44 ?_
    exact ⟨congrArg gI (by unfold GRF; (repeat' split) <;> omega), rfl⟩
  refine w_lookup (pc' := 45) (off := 44) dX5_greatestFor_1 (by decide) (by simp [Op.lookupswitch.offset, Ne.symm c_1_8, c_1_8, Ne.symm c_1_23, c_1_23, Ne.symm c_1_25, c_1_25]) rfl ?_
  refine w_sipush (pc' := 48) (by decide) (by decide) dX5_greatestFor_45 rfl ?_
  refine v_ireturn rfl dX5_greatestFor_48 ?_
  exact ⟨congrArg gI (by unfold GRF; (repeat' split) <;> omega), rfl⟩
theorem kl_await {σ : gH} (w : Int) (h : 0 ≤ σ 57 17 ∧ σ 57 17 < 64) : Mt mX5_await 0 [gR 57, gI w] σ (rE (gX 1) (gUp (gUp σ 67 (σ 57 17) w) 57 17 (σ 57 17 + 1))) := by
  refine Mt.walk (ls := [gR 57, gI w]) pn_X5 rfl (fun _ _ h => by cases h.1) (Nat.le_of_ble_eq_true rfl) rfl ?_
  refine w_aload_n (pc' := 1) (i := 0) (by rfl) (by rfl) dX5_await_0 rfl ?_
  refine v_getI (pc' := 4) (ji := 17) rfl fg_X5_156 kd_57 dX5_await_1 rfl ?_
  refine w_if_lt (pc' := 7) (t := 36) dX5_await_4 rfl rfl (fun c_4 => ?_) (fun c_4 => ?_)
  · skip
    refine w_return rfl dX5_await_36 ?_
    first | (exfalso; omega) | exact ⟨rfl, rfl⟩
  · skip
    refine w_aload_n (pc' := 8) (i := 0) (by rfl) (by rfl) dX5_await_7 rfl ?_
    refine v_getI (pc' := 11) (ji := 17) rfl fg_X5_156 kd_57 dX5_await_8 rfl ?_
    refine w_bipush (pc' := 13) (by decide) (by decide) dX5_await_11 rfl ?_
    refine w_icmp_ge (pc' := 16) (t := 36) dX5_await_13 rfl rfl (fun c_13 => ?_) (fun c_13 => ?_)
    · skip
      refine w_return rfl dX5_await_36 ?_
      first | (exfalso; omega) | exact ⟨rfl, rfl⟩
    · skip
      refine w_aload_n (pc' := 17) (i := 0) (by rfl) (by rfl) dX5_await_16 rfl ?_
      refine w_getS (pc' := 20) (q := 67) fg_X5_32 kd_57 sf_X5_16 gr_57_16 dX5_await_17 rfl ?_
      refine w_aload_n (pc' := 21) (i := 0) (by rfl) (by rfl) dX5_await_20 rfl ?_
      refine v_getI (pc' := 24) (ji := 17) rfl fg_X5_156 kd_57 dX5_await_21 rfl ?_
      refine w_iload_n (pc' := 25) (i := 1) (by rfl) (by rfl) dX5_await_24 rfl ?_
      refine w_iast (pc' := 26) kd_67 (by omega) (by omega) dX5_await_25 rfl ?_
      refine w_aload_n (pc' := 27) (i := 0) (by rfl) (by rfl) dX5_await_26 rfl ?_
      refine w_dup (pc' := 28) dX5_await_27 rfl ?_
      refine v_getI (pc' := 31) (ji := 17) rfl fg_X5_156 kd_57 dX5_await_28 rfl ?_
      show Wp _ _ _ _ _ _ [gI (σ 57 17), gR 57]
      refine w_iconst (pc' := 32) (by decide) dX5_await_31 rfl ?_
      refine v_iadd (pc' := 33) (by omega) dX5_await_32 rfl ?_
      refine v_putI (pc' := 36) (ji := 17) rfl fp_X5_156 kd_57 sf_X5_17 dX5_await_33 rfl ?_
      refine w_return rfl dX5_await_36 ?_
      first | (exfalso; omega) | exact ⟨rfl, rfl⟩
theorem kl_lastWaiting {σ : gH} (h : 0 ≤ σ 57 17 ∧ σ 57 17 ≤ 64) : Mt mX5_lastWaiting 0 [gR 57] σ (rE (gI (LWT (σ 67) (σ 57 17))) σ) := by
  refine Mt.walk (ls := [gR 57]) pn_X5 rfl (fun _ _ h => by cases h.1) (Nat.le_of_ble_eq_true rfl) rfl ?_
  have hl := LWT_in (σ 67) (σ 57 17)
  refine w_aload_n (pc' := 1) (i := 0) (by rfl) (by rfl) dX5_lastWaiting_0 rfl ?_
  refine v_getI (pc' := 4) (ji := 17) rfl fg_X5_156 kd_57 dX5_lastWaiting_1 rfl ?_
  refine w_if_le (pc' := 7) (t := 30) dX5_lastWaiting_4 rfl rfl (fun c_4 => ?_) (fun c_4 => ?_)
  · skip
    refine w_iconst (pc' := 31) (by decide) dX5_lastWaiting_30 rfl ?_
    refine v_ireturn rfl dX5_lastWaiting_31 ?_
    first | (exfalso; omega) | exact ⟨congrArg gI (by omega), rfl⟩
  · skip
    refine w_aload_n (pc' := 8) (i := 0) (by rfl) (by rfl) dX5_lastWaiting_7 rfl ?_
    refine v_getI (pc' := 11) (ji := 17) rfl fg_X5_156 kd_57 dX5_lastWaiting_8 rfl ?_
    refine w_bipush (pc' := 13) (by decide) (by decide) dX5_lastWaiting_11 rfl ?_
    refine w_icmp_gt (pc' := 16) (t := 30) dX5_lastWaiting_13 rfl rfl (fun c_13 => ?_) (fun c_13 => ?_)
    · skip
      refine w_iconst (pc' := 31) (by decide) dX5_lastWaiting_30 rfl ?_
      refine v_ireturn rfl dX5_lastWaiting_31 ?_
      first | (exfalso; omega) | exact ⟨congrArg gI (by omega), rfl⟩
    · skip
      refine w_aload_n (pc' := 17) (i := 0) (by rfl) (by rfl) dX5_lastWaiting_16 rfl ?_
      refine w_getS (pc' := 20) (q := 67) fg_X5_32 kd_57 sf_X5_16 gr_57_16 dX5_lastWaiting_17 rfl ?_
      refine w_aload_n (pc' := 21) (i := 0) (by rfl) (by rfl) dX5_lastWaiting_20 rfl ?_
      refine v_getI (pc' := 24) (ji := 17) rfl fg_X5_156 kd_57 dX5_lastWaiting_21 rfl ?_
      refine w_iconst (pc' := 25) (by decide) dX5_lastWaiting_24 rfl ?_
      refine v_isub (pc' := 26) (by omega) dX5_lastWaiting_25 rfl ?_
      refine w_iald (pc' := 27) kd_67 (by omega) (by omega) dX5_lastWaiting_26 rfl ?_
      refine w_goto (pc' := 31) dX5_lastWaiting_27 rfl ?_
      refine v_ireturn rfl dX5_lastWaiting_31 ?_
      first | (exfalso; omega) | exact ⟨congrArg gI (by omega), rfl⟩
theorem kl68_put {σ : gH} (m s n : Int) (h : 0 ≤ σ 68 15 ∧ σ 68 15 < 120) : Mt mX4_put 0 [gR 68, gI m, gI s, gI n] σ (rE (gX 1) (gUp (gUp (gUp (gUp σ 72 (σ 68 15) m) 73 (σ 68 15) s) 74 (σ 68 15) n) 68 15 (σ 68 15 + 1))) := by
  refine Mt.walk (ls := [gR 68, gI m, gI s, gI n]) pn_X4 rfl (fun _ _ h => by cases h.1) (Nat.le_of_ble_eq_true rfl) rfl ?_
  refine w_aload_n (pc' := 1) (i := 0) (by rfl) (by rfl) dX4_put_0 rfl ?_
  refine v_getI (pc' := 4) (ji := 15) rfl fg_X4_58 kd_68 dX4_put_1 rfl ?_
  refine w_if_lt (pc' := 7) (t := 56) dX4_put_4 rfl rfl (fun c_4 => ?_) (fun c_4 => ?_)
  · skip
    refine w_return rfl dX4_put_56 ?_
    first | (exfalso; omega) | exact ⟨rfl, rfl⟩
  · skip
    refine w_aload_n (pc' := 8) (i := 0) (by rfl) (by rfl) dX4_put_7 rfl ?_
    refine v_getI (pc' := 11) (ji := 15) rfl fg_X4_58 kd_68 dX4_put_8 rfl ?_
    refine w_bipush (pc' := 13) (by decide) (by decide) dX4_put_11 rfl ?_
    refine w_icmp_ge (pc' := 16) (t := 56) dX4_put_13 rfl rfl (fun c_13 => ?_) (fun c_13 => ?_)
    · skip
      refine w_return rfl dX4_put_56 ?_
      first | (exfalso; omega) | exact ⟨rfl, rfl⟩
    · skip
      refine w_aload_n (pc' := 17) (i := 0) (by rfl) (by rfl) dX4_put_16 rfl ?_
      refine w_getS (pc' := 20) (q := 72) fg_X4_34 kd_68 sf_X4_12 gr_68_12 dX4_put_17 rfl ?_
      refine w_aload_n (pc' := 21) (i := 0) (by rfl) (by rfl) dX4_put_20 rfl ?_
      refine v_getI (pc' := 24) (ji := 15) rfl fg_X4_58 kd_68 dX4_put_21 rfl ?_
      refine w_iload_n (pc' := 25) (i := 1) (by rfl) (by rfl) dX4_put_24 rfl ?_
      refine w_iast (pc' := 26) kd_72 (by omega) (by omega) dX4_put_25 rfl ?_
      refine w_aload_n (pc' := 27) (i := 0) (by rfl) (by rfl) dX4_put_26 rfl ?_
      refine w_getS (pc' := 30) (q := 73) fg_X4_37 kd_68 sf_X4_13 gr_68_13 dX4_put_27 rfl ?_
      refine w_aload_n (pc' := 31) (i := 0) (by rfl) (by rfl) dX4_put_30 rfl ?_
      refine v_getI (pc' := 34) (ji := 15) rfl fg_X4_58 kd_68 dX4_put_31 rfl ?_
      show Wp _ _ _ _ _ _ [gI (σ 68 15), gR 73]
      refine w_iload_n (pc' := 35) (i := 2) (by rfl) (by rfl) dX4_put_34 rfl ?_
      refine w_iast (pc' := 36) kd_73 (by omega) (by omega) dX4_put_35 rfl ?_
      refine w_aload_n (pc' := 37) (i := 0) (by rfl) (by rfl) dX4_put_36 rfl ?_
      refine w_getS (pc' := 40) (q := 74) fg_X4_40 kd_68 sf_X4_14 gr_68_14 dX4_put_37 rfl ?_
      refine w_aload_n (pc' := 41) (i := 0) (by rfl) (by rfl) dX4_put_40 rfl ?_
      refine v_getI (pc' := 44) (ji := 15) rfl fg_X4_58 kd_68 dX4_put_41 rfl ?_
      show Wp _ _ _ _ _ _ [gI (σ 68 15), gR 74]
      refine w_iload_n (pc' := 45) (i := 3) (by rfl) (by rfl) dX4_put_44 rfl ?_
      refine w_iast (pc' := 46) kd_74 (by omega) (by omega) dX4_put_45 rfl ?_
      refine w_aload_n (pc' := 47) (i := 0) (by rfl) (by rfl) dX4_put_46 rfl ?_
      refine w_dup (pc' := 48) dX4_put_47 rfl ?_
      refine v_getI (pc' := 51) (ji := 15) rfl fg_X4_58 kd_68 dX4_put_48 rfl ?_
      show Wp _ _ _ _ _ _ [gI (σ 68 15), gR 68]
      refine w_iconst (pc' := 52) (by decide) dX4_put_51 rfl ?_
      refine v_iadd (pc' := 53) (by omega) dX4_put_52 rfl ?_
      refine v_putI (pc' := 56) (ji := 15) rfl fp_X4_58 kd_68 sf_X4_15 dX4_put_53 rfl ?_
      refine w_return rfl dX4_put_56 ?_
      first | (exfalso; omega) | exact ⟨rfl, rfl⟩
theorem kl68_begin {σ : gH} (r : Int) (h : 0 ≤ r ∧ r < 10) : Mt mX4_begin 0 [gR 68, gI r] σ (rE (gX 1) (gUp (gUp σ 70 r (σ 68 15)) 71 r (σ 68 15))) := by
  refine Mt.walk (ls := [gR 68, gI r]) pn_X4 rfl (fun _ _ h => by cases h.1) (Nat.le_of_ble_eq_true rfl) rfl ?_
  refine w_iload_n (pc' := 1) (i := 1) (by rfl) (by rfl) dX4_begin_0 rfl ?_
  refine w_if_lt (pc' := 4) (t := 30) dX4_begin_1 rfl rfl (fun c_1 => ?_) (fun c_1 => ?_)
  · skip
    refine w_return rfl dX4_begin_30 ?_
    first | (exfalso; omega) | exact ⟨rfl, rfl⟩
  · skip
    refine w_iload_n (pc' := 5) (i := 1) (by rfl) (by rfl) dX4_begin_4 rfl ?_
    refine w_bipush (pc' := 7) (by decide) (by decide) dX4_begin_5 rfl ?_
    refine w_icmp_ge (pc' := 10) (t := 30) dX4_begin_7 rfl rfl (fun c_7 => ?_) (fun c_7 => ?_)
    · skip
      refine w_return rfl dX4_begin_30 ?_
      first | (exfalso; omega) | exact ⟨rfl, rfl⟩
    · skip
      refine w_aload_n (pc' := 11) (i := 0) (by rfl) (by rfl) dX4_begin_10 rfl ?_
      refine w_getS (pc' := 14) (q := 70) fg_X4_28 kd_68 sf_X4_10 gr_68_10 dX4_begin_11 rfl ?_
      refine w_iload_n (pc' := 15) (i := 1) (by rfl) (by rfl) dX4_begin_14 rfl ?_
      refine w_aload_n (pc' := 16) (i := 0) (by rfl) (by rfl) dX4_begin_15 rfl ?_
      refine v_getI (pc' := 19) (ji := 15) rfl fg_X4_58 kd_68 dX4_begin_16 rfl ?_
      refine w_iast (pc' := 20) kd_70 (by omega) (by omega) dX4_begin_19 rfl ?_
      refine w_aload_n (pc' := 21) (i := 0) (by rfl) (by rfl) dX4_begin_20 rfl ?_
      refine w_getS (pc' := 24) (q := 71) fg_X4_31 kd_68 sf_X4_11 gr_68_11 dX4_begin_21 rfl ?_
      refine w_iload_n (pc' := 25) (i := 1) (by rfl) (by rfl) dX4_begin_24 rfl ?_
      refine w_aload_n (pc' := 26) (i := 0) (by rfl) (by rfl) dX4_begin_25 rfl ?_
      refine v_getI (pc' := 29) (ji := 15) rfl fg_X4_58 kd_68 dX4_begin_26 rfl ?_
      show Wp _ _ _ _ _ _ [gI (σ 68 15), gI r, gR 71]
      refine w_iast (pc' := 30) kd_71 (by omega) (by omega) dX4_begin_29 rfl ?_
      refine w_return rfl dX4_begin_30 ?_
      first | (exfalso; omega) | exact ⟨rfl, rfl⟩
theorem kl68_finish {σ : gH} (r : Int) (h : 0 ≤ r ∧ r < 10) : Mt mX4_finish 0 [gR 68, gI r] σ (rE (gX 1) (gUp σ 71 r (σ 68 15))) := by
  refine Mt.walk (ls := [gR 68, gI r]) pn_X4 rfl (fun _ _ h => by cases h.1) (Nat.le_of_ble_eq_true rfl) rfl ?_
  refine w_iload_n (pc' := 1) (i := 1) (by rfl) (by rfl) dX4_finish_0 rfl ?_
  refine w_if_lt (pc' := 4) (t := 20) dX4_finish_1 rfl rfl (fun c_1 => ?_) (fun c_1 => ?_)
  · skip
    refine w_return rfl dX4_finish_20 ?_
    first | (exfalso; omega) | exact ⟨rfl, rfl⟩
  · skip
    refine w_iload_n (pc' := 5) (i := 1) (by rfl) (by rfl) dX4_finish_4 rfl ?_
    refine w_bipush (pc' := 7) (by decide) (by decide) dX4_finish_5 rfl ?_
    refine w_icmp_ge (pc' := 10) (t := 20) dX4_finish_7 rfl rfl (fun c_7 => ?_) (fun c_7 => ?_)
    · skip
      refine w_return rfl dX4_finish_20 ?_
      first | (exfalso; omega) | exact ⟨rfl, rfl⟩
    · skip
      refine w_aload_n (pc' := 11) (i := 0) (by rfl) (by rfl) dX4_finish_10 rfl ?_
      refine w_getS (pc' := 14) (q := 71) fg_X4_31 kd_68 sf_X4_11 gr_68_11 dX4_finish_11 rfl ?_
      refine w_iload_n (pc' := 15) (i := 1) (by rfl) (by rfl) dX4_finish_14 rfl ?_
      refine w_aload_n (pc' := 16) (i := 0) (by rfl) (by rfl) dX4_finish_15 rfl ?_
      refine v_getI (pc' := 19) (ji := 15) rfl fg_X4_58 kd_68 dX4_finish_16 rfl ?_
      refine w_iast (pc' := 20) kd_71 (by omega) (by omega) dX4_finish_19 rfl ?_
      refine w_return rfl dX4_finish_20 ?_
      first | (exfalso; omega) | exact ⟨rfl, rfl⟩
theorem kl68_addTell {σ : gH} (x : Int) (h : 0 ≤ σ 68 3 ∧ σ 68 3 < 8) : Mt mX4_addTell 0 [gR 68, gI x] σ (rE (gI (σ 68 3)) (gUp (gUp σ 69 (σ 68 3) x) 68 3 (σ 68 3 + 1))) := by
  refine Mt.walk (ls := [gR 68, gI x]) pn_X4 rfl (fun _ _ h => by cases h.1) (Nat.le_of_ble_eq_true rfl) rfl ?_
  refine w_aload_n (pc' := 1) (i := 0) (by rfl) (by rfl) dX4_addTell_0 rfl ?_
  refine v_getI (pc' := 4) (ji := 3) rfl fg_X4_52 kd_68 dX4_addTell_1 rfl ?_
  refine w_if_lt (pc' := 7) (t := 16) dX4_addTell_4 rfl rfl (fun c_4 => ?_) (fun c_4 => ?_)
  · skip
    refine w_iconst (pc' := 17) (by decide) dX4_addTell_16 rfl ?_
    refine v_ireturn rfl dX4_addTell_17 ?_
    first | (exfalso; omega) | exact ⟨congrArg gI (by omega), rfl⟩
  · skip
    refine w_aload_n (pc' := 8) (i := 0) (by rfl) (by rfl) dX4_addTell_7 rfl ?_
    refine v_getI (pc' := 11) (ji := 3) rfl fg_X4_52 kd_68 dX4_addTell_8 rfl ?_
    refine w_bipush (pc' := 13) (by decide) (by decide) dX4_addTell_11 rfl ?_
    refine w_icmp_lt (pc' := 16) (t := 18) dX4_addTell_13 rfl rfl (fun c_13 => ?_) (fun c_13 => ?_)
    · skip
      refine w_aload_n (pc' := 19) (i := 0) (by rfl) (by rfl) dX4_addTell_18 rfl ?_
      refine w_getS (pc' := 22) (q := 69) fg_X4_24 kd_68 sf_X4_9 gr_68_9 dX4_addTell_19 rfl ?_
      refine w_aload_n (pc' := 23) (i := 0) (by rfl) (by rfl) dX4_addTell_22 rfl ?_
      refine v_getI (pc' := 26) (ji := 3) rfl fg_X4_52 kd_68 dX4_addTell_23 rfl ?_
      refine w_iload_n (pc' := 27) (i := 1) (by rfl) (by rfl) dX4_addTell_26 rfl ?_
      refine w_iast (pc' := 28) kd_69 (by omega) (by omega) dX4_addTell_27 rfl ?_
      refine w_aload_n (pc' := 29) (i := 0) (by rfl) (by rfl) dX4_addTell_28 rfl ?_
      refine w_dup (pc' := 30) dX4_addTell_29 rfl ?_
      refine v_getI (pc' := 33) (ji := 3) rfl fg_X4_52 kd_68 dX4_addTell_30 rfl ?_
      show Wp _ _ _ _ _ _ [gI (σ 68 3), gR 68]
      refine w_iconst (pc' := 34) (by decide) dX4_addTell_33 rfl ?_
      refine v_iadd (pc' := 35) (by omega) dX4_addTell_34 rfl ?_
      refine v_putI (pc' := 38) (ji := 3) rfl fp_X4_52 kd_68 sf_X4_3 dX4_addTell_35 rfl ?_
      refine w_aload_n (pc' := 39) (i := 0) (by rfl) (by rfl) dX4_addTell_38 rfl ?_
      refine v_getI (pc' := 42) (ji := 3) rfl fg_X4_52 kd_68 dX4_addTell_39 rfl ?_
      show Wp _ _ _ _ _ _ [gI ((σ 68 3) + 1)]
      refine w_iconst (pc' := 43) (by decide) dX4_addTell_42 rfl ?_
      refine v_isub (pc' := 44) (by omega) dX4_addTell_43 rfl ?_
      refine v_ireturn rfl dX4_addTell_44 ?_
      first | (exfalso; omega) | exact ⟨congrArg gI (by omega), rfl⟩
    · skip
      refine w_iconst (pc' := 17) (by decide) dX4_addTell_16 rfl ?_
      refine v_ireturn rfl dX4_addTell_17 ?_
      first | (exfalso; omega) | exact ⟨congrArg gI (by omega), rfl⟩
theorem kl68_countRule {σ : gH} (h : 0 ≤ σ 68 2 ∧ σ 68 2 < 600) : Mt mX4_countRule 0 [gR 68] σ (rE (gX 1) (gUp σ 68 2 (σ 68 2 + 1))) := by
  refine Mt.walk (ls := [gR 68]) pn_X4 rfl (fun _ _ h => by cases h.1) (Nat.le_of_ble_eq_true rfl) rfl ?_
  refine w_aload_n (pc' := 1) (i := 0) (by rfl) (by rfl) dX4_countRule_0 rfl ?_
  refine w_dup (pc' := 2) dX4_countRule_1 rfl ?_
  refine v_getI (pc' := 5) (ji := 2) rfl fg_X4_49 kd_68 dX4_countRule_2 rfl ?_
  refine w_iconst (pc' := 6) (by decide) dX4_countRule_5 rfl ?_
  refine v_iadd (pc' := 7) (by omega) dX4_countRule_6 rfl ?_
  refine v_putI (pc' := 10) (ji := 2) rfl fp_X4_49 kd_68 sf_X4_2 dX4_countRule_7 rfl ?_
  refine w_return rfl dX4_countRule_10 ?_
  first | (exfalso; omega) | exact ⟨rfl, rfl⟩
theorem kl68_totalTells {σ : gH}  : Mt mX4_totalTells 0 [gR 68] σ (rE (gI (σ 68 3)) σ) := by
  refine Mt.walk (ls := [gR 68]) pn_X4 rfl (fun _ _ h => by cases h.1) (Nat.le_of_ble_eq_true rfl) rfl ?_
  refine w_aload_n (pc' := 1) (i := 0) (by rfl) (by rfl) dX4_totalTells_0 rfl ?_
  refine v_getI (pc' := 4) (ji := 3) rfl fg_X4_52 kd_68 dX4_totalTells_1 rfl ?_
  refine v_ireturn rfl dX4_totalTells_4 ?_
  first | (exfalso; omega) | exact ⟨rfl, rfl⟩
def stJ (w : Int) : Int := if w = 8 then 4 else if w = 22 then 5 else if w = 23 then 6 else if w = 24 then 7 else 8
theorem kl68_set {σ : gH} (x n : Int) : Mt mX4_set 0 [gR 68, gI x, gI n] σ (rE (gX 1) (gUp σ 68 (stJ x) n)) := by
  refine Mt.walk (ls := [gR 68, gI x, gI n]) pn_X4 rfl (fun _ _ h => by cases h.1) (Nat.le_of_ble_eq_true rfl) rfl ?_
  refine w_iload_n (pc' := 1) (i := 1) (by rfl) (by rfl) dX4_set_0 rfl ?_
  by_cases c_1_8 : x = 8
  · refine w_lookup (pc' := 44) (off := 43) dX4_set_1 (by decide) (by rw [c_1_8]; rfl) rfl ?_
    refine w_aload_n (pc' := 45) (i := 0) (by rfl) (by rfl) dX4_set_44 rfl ?_
    refine w_iload_n (pc' := 46) (i := 2) (by rfl) (by rfl) dX4_set_45 rfl ?_
    refine v_putI (pc' := 49) (ji := 4) rfl fp_X4_11 kd_68 sf_X4_4 dX4_set_46 rfl ?_
    refine w_goto (pc' := 81) dX4_set_49 rfl ?_
    refine w_return rfl dX4_set_81 ?_
    exact ⟨rfl, by rw [show stJ x = 4 by unfold stJ; (repeat' split) <;> omega]⟩
  by_cases c_1_22 : x = 22
  · refine w_lookup (pc' := 52) (off := 51) dX4_set_1 (by decide) (by rw [c_1_22]; rfl) rfl ?_
    refine w_aload_n (pc' := 53) (i := 0) (by rfl) (by rfl) dX4_set_52 rfl ?_
    refine w_iload_n (pc' := 54) (i := 2) (by rfl) (by rfl) dX4_set_53 rfl ?_
    refine v_putI (pc' := 57) (ji := 5) rfl fp_X4_15 kd_68 sf_X4_5 dX4_set_54 rfl ?_
    refine w_goto (pc' := 81) dX4_set_57 rfl ?_
    refine w_return rfl dX4_set_81 ?_
    exact ⟨rfl, by rw [show stJ x = 5 by unfold stJ; (repeat' split) <;> omega]⟩
  by_cases c_1_23 : x = 23
  · refine w_lookup (pc' := 60) (off := 59) dX4_set_1 (by decide) (by rw [c_1_23]; rfl) rfl ?_
    refine w_aload_n (pc' := 61) (i := 0) (by rfl) (by rfl) dX4_set_60 rfl ?_
    refine w_iload_n (pc' := 62) (i := 2) (by rfl) (by rfl) dX4_set_61 rfl ?_
    refine v_putI (pc' := 65) (ji := 6) rfl fp_X4_18 kd_68 sf_X4_6 dX4_set_62 rfl ?_
    refine w_goto (pc' := 81) dX4_set_65 rfl ?_
    refine w_return rfl dX4_set_81 ?_
    exact ⟨rfl, by rw [show stJ x = 6 by unfold stJ; (repeat' split) <;> omega]⟩
  by_cases c_1_24 : x = 24
  · refine w_lookup (pc' := 68) (off := 67) dX4_set_1 (by decide) (by rw [c_1_24]; rfl) rfl ?_
    refine w_aload_n (pc' := 69) (i := 0) (by rfl) (by rfl) dX4_set_68 rfl ?_
    refine w_iload_n (pc' := 70) (i := 2) (by rfl) (by rfl) dX4_set_69 rfl ?_
    refine v_putI (pc' := 73) (ji := 7) rfl fp_X4_21 kd_68 sf_X4_7 dX4_set_70 rfl ?_
    refine w_goto (pc' := 81) dX4_set_73 rfl ?_
    refine w_return rfl dX4_set_81 ?_
    exact ⟨rfl, by rw [show stJ x = 7 by unfold stJ; (repeat' split) <;> omega]⟩
  refine w_lookup (pc' := 76) (off := 75) dX4_set_1 (by decide) (by simp [Op.lookupswitch.offset, Ne.symm c_1_8, c_1_8, Ne.symm c_1_22, c_1_22, Ne.symm c_1_23, c_1_23, Ne.symm c_1_24, c_1_24]) rfl ?_
  refine w_aload_n (pc' := 77) (i := 0) (by rfl) (by rfl) dX4_set_76 rfl ?_
  refine w_iload_n (pc' := 78) (i := 2) (by rfl) (by rfl) dX4_set_77 rfl ?_
  refine v_putI (pc' := 81) (ji := 8) rfl fp_X4_55 kd_68 sf_X4_8 dX4_set_78 rfl ?_
  refine w_return rfl dX4_set_81 ?_
  exact ⟨rfl, by rw [show stJ x = 8 by unfold stJ; (repeat' split) <;> omega]⟩
theorem kl68_clear {σ : gH} (f k : Int) : Mt mX4_clear 1 [gR 68, gI f, gI k] σ (rE (gX 1) (gUr (gUr (gUp (gUp (gUp (gUp (gUp (gUp (gUp (gUp (gUp (gUp σ 68 1 f) 68 0 k) 68 2 0) 68 3 0) 68 4 1) 68 5 365) 68 6 365) 68 7 90) 68 8 0) 68 15 0) 70 (fillF (σ 70) 10 0)) 71 (fillF (σ 71) 10 0))) := by
  refine Mt.walk (ls := [gR 68, gI f, gI k]) pn_X4 rfl (fun _ _ h => by cases h.1) (Nat.le_of_ble_eq_true rfl) rfl ?_
  refine w_aload_n (pc' := 1) (i := 0) (by rfl) (by rfl) dX4_clear_0 rfl ?_
  refine w_iload_n (pc' := 2) (i := 1) (by rfl) (by rfl) dX4_clear_1 rfl ?_
  refine v_putI (pc' := 5) (ji := 1) rfl fp_X4_43 kd_68 sf_X4_1 dX4_clear_2 rfl ?_
  refine w_aload_n (pc' := 6) (i := 0) (by rfl) (by rfl) dX4_clear_5 rfl ?_
  refine w_iload_n (pc' := 7) (i := 2) (by rfl) (by rfl) dX4_clear_6 rfl ?_
  refine v_putI (pc' := 10) (ji := 0) rfl fp_X4_46 kd_68 sf_X4_0 dX4_clear_7 rfl ?_
  refine w_aload_n (pc' := 11) (i := 0) (by rfl) (by rfl) dX4_clear_10 rfl ?_
  refine w_iconst (pc' := 12) (by decide) dX4_clear_11 rfl ?_
  refine v_putI (pc' := 15) (ji := 2) rfl fp_X4_49 kd_68 sf_X4_2 dX4_clear_12 rfl ?_
  refine w_aload_n (pc' := 16) (i := 0) (by rfl) (by rfl) dX4_clear_15 rfl ?_
  refine w_iconst (pc' := 17) (by decide) dX4_clear_16 rfl ?_
  refine v_putI (pc' := 20) (ji := 3) rfl fp_X4_52 kd_68 sf_X4_3 dX4_clear_17 rfl ?_
  refine w_aload_n (pc' := 21) (i := 0) (by rfl) (by rfl) dX4_clear_20 rfl ?_
  refine w_iconst (pc' := 22) (by decide) dX4_clear_21 rfl ?_
  refine v_putI (pc' := 25) (ji := 4) rfl fp_X4_11 kd_68 sf_X4_4 dX4_clear_22 rfl ?_
  refine w_aload_n (pc' := 26) (i := 0) (by rfl) (by rfl) dX4_clear_25 rfl ?_
  refine w_sipush (pc' := 29) (by decide) (by decide) dX4_clear_26 rfl ?_
  refine v_putI (pc' := 32) (ji := 5) rfl fp_X4_15 kd_68 sf_X4_5 dX4_clear_29 rfl ?_
  refine w_aload_n (pc' := 33) (i := 0) (by rfl) (by rfl) dX4_clear_32 rfl ?_
  refine w_sipush (pc' := 36) (by decide) (by decide) dX4_clear_33 rfl ?_
  refine v_putI (pc' := 39) (ji := 6) rfl fp_X4_18 kd_68 sf_X4_6 dX4_clear_36 rfl ?_
  refine w_aload_n (pc' := 40) (i := 0) (by rfl) (by rfl) dX4_clear_39 rfl ?_
  refine w_bipush (pc' := 42) (by decide) (by decide) dX4_clear_40 rfl ?_
  refine v_putI (pc' := 45) (ji := 7) rfl fp_X4_21 kd_68 sf_X4_7 dX4_clear_42 rfl ?_
  refine w_aload_n (pc' := 46) (i := 0) (by rfl) (by rfl) dX4_clear_45 rfl ?_
  refine w_iconst (pc' := 47) (by decide) dX4_clear_46 rfl ?_
  refine v_putI (pc' := 50) (ji := 8) rfl fp_X4_55 kd_68 sf_X4_8 dX4_clear_47 rfl ?_
  refine w_aload_n (pc' := 51) (i := 0) (by rfl) (by rfl) dX4_clear_50 rfl ?_
  refine w_iconst (pc' := 52) (by decide) dX4_clear_51 rfl ?_
  refine v_putI (pc' := 55) (ji := 15) rfl fp_X4_58 kd_68 sf_X4_15 dX4_clear_52 rfl ?_
  refine w_aload_n (pc' := 56) (i := 0) (by rfl) (by rfl) dX4_clear_55 rfl ?_
  refine w_getS (pc' := 59) (q := 70) fg_X4_28 kd_68 sf_X4_10 gr_68_10 dX4_clear_56 rfl ?_
  refine w_iconst (pc' := 60) (by decide) dX4_clear_59 rfl ?_
  refine v_callSE (pc' := 63) (st' := []) (d' := 0) (av := [gR 70, gI 0]) ms_mJ7_fill_53178 st_mJ7_fill_53178 lk_X4_61 rfl rfl (Nat.le_of_ble_eq_true rfl) (Nat.le_of_ble_eq_true rfl) dX4_clear_60 rfl rfl (k_fillI (x := 70) (n := 10) kd_70 (by decide) (gUp (gUp (gUp (gUp (gUp (gUp (gUp (gUp (gUp (gUp σ 68 1 f) 68 0 k) 68 2 0) 68 3 0) 68 4 1) 68 5 365) 68 6 365) 68 7 90) 68 8 0) 68 15 0) 0) ?_
  refine w_aload_n (pc' := 64) (i := 0) (by rfl) (by rfl) dX4_clear_63 rfl ?_
  refine w_getS (pc' := 67) (q := 71) fg_X4_31 kd_68 sf_X4_11 gr_68_11 dX4_clear_64 rfl ?_
  refine w_iconst (pc' := 68) (by decide) dX4_clear_67 rfl ?_
  refine v_callSE (pc' := 71) (st' := []) (d' := 0) (av := [gR 71, gI 0]) ms_mJ7_fill_53178 st_mJ7_fill_53178 lk_X4_61 rfl rfl (Nat.le_of_ble_eq_true rfl) (Nat.le_of_ble_eq_true rfl) dX4_clear_68 rfl rfl (k_fillI (x := 71) (n := 10) kd_71 (by decide) (gUr (gUp (gUp (gUp (gUp (gUp (gUp (gUp (gUp (gUp (gUp σ 68 1 f) 68 0 k) 68 2 0) 68 3 0) 68 4 1) 68 5 365) 68 6 365) 68 7 90) 68 8 0) 68 15 0) 70 (fillF (σ 70) 10 0)) 0) ?_
  refine w_return rfl dX4_clear_71 ?_
  first | (exfalso; omega) | exact ⟨rfl, rfl⟩
theorem kl75_put {σ : gH} (m s n : Int) (h : 0 ≤ σ 75 15 ∧ σ 75 15 < 120) : Mt mX4_put 0 [gR 75, gI m, gI s, gI n] σ (rE (gX 1) (gUp (gUp (gUp (gUp σ 79 (σ 75 15) m) 80 (σ 75 15) s) 81 (σ 75 15) n) 75 15 (σ 75 15 + 1))) := by
  refine Mt.walk (ls := [gR 75, gI m, gI s, gI n]) pn_X4 rfl (fun _ _ h => by cases h.1) (Nat.le_of_ble_eq_true rfl) rfl ?_
  refine w_aload_n (pc' := 1) (i := 0) (by rfl) (by rfl) dX4_put_0 rfl ?_
  refine v_getI (pc' := 4) (ji := 15) rfl fg_X4_58 kd_75 dX4_put_1 rfl ?_
  refine w_if_lt (pc' := 7) (t := 56) dX4_put_4 rfl rfl (fun c_4 => ?_) (fun c_4 => ?_)
  · skip
    refine w_return rfl dX4_put_56 ?_
    first | (exfalso; omega) | exact ⟨rfl, rfl⟩
  · skip
    refine w_aload_n (pc' := 8) (i := 0) (by rfl) (by rfl) dX4_put_7 rfl ?_
    refine v_getI (pc' := 11) (ji := 15) rfl fg_X4_58 kd_75 dX4_put_8 rfl ?_
    refine w_bipush (pc' := 13) (by decide) (by decide) dX4_put_11 rfl ?_
    refine w_icmp_ge (pc' := 16) (t := 56) dX4_put_13 rfl rfl (fun c_13 => ?_) (fun c_13 => ?_)
    · skip
      refine w_return rfl dX4_put_56 ?_
      first | (exfalso; omega) | exact ⟨rfl, rfl⟩
    · skip
      refine w_aload_n (pc' := 17) (i := 0) (by rfl) (by rfl) dX4_put_16 rfl ?_
      refine w_getS (pc' := 20) (q := 79) fg_X4_34 kd_75 sf_X4_12 gr_75_12 dX4_put_17 rfl ?_
      refine w_aload_n (pc' := 21) (i := 0) (by rfl) (by rfl) dX4_put_20 rfl ?_
      refine v_getI (pc' := 24) (ji := 15) rfl fg_X4_58 kd_75 dX4_put_21 rfl ?_
      refine w_iload_n (pc' := 25) (i := 1) (by rfl) (by rfl) dX4_put_24 rfl ?_
      refine w_iast (pc' := 26) kd_79 (by omega) (by omega) dX4_put_25 rfl ?_
      refine w_aload_n (pc' := 27) (i := 0) (by rfl) (by rfl) dX4_put_26 rfl ?_
      refine w_getS (pc' := 30) (q := 80) fg_X4_37 kd_75 sf_X4_13 gr_75_13 dX4_put_27 rfl ?_
      refine w_aload_n (pc' := 31) (i := 0) (by rfl) (by rfl) dX4_put_30 rfl ?_
      refine v_getI (pc' := 34) (ji := 15) rfl fg_X4_58 kd_75 dX4_put_31 rfl ?_
      show Wp _ _ _ _ _ _ [gI (σ 75 15), gR 80]
      refine w_iload_n (pc' := 35) (i := 2) (by rfl) (by rfl) dX4_put_34 rfl ?_
      refine w_iast (pc' := 36) kd_80 (by omega) (by omega) dX4_put_35 rfl ?_
      refine w_aload_n (pc' := 37) (i := 0) (by rfl) (by rfl) dX4_put_36 rfl ?_
      refine w_getS (pc' := 40) (q := 81) fg_X4_40 kd_75 sf_X4_14 gr_75_14 dX4_put_37 rfl ?_
      refine w_aload_n (pc' := 41) (i := 0) (by rfl) (by rfl) dX4_put_40 rfl ?_
      refine v_getI (pc' := 44) (ji := 15) rfl fg_X4_58 kd_75 dX4_put_41 rfl ?_
      show Wp _ _ _ _ _ _ [gI (σ 75 15), gR 81]
      refine w_iload_n (pc' := 45) (i := 3) (by rfl) (by rfl) dX4_put_44 rfl ?_
      refine w_iast (pc' := 46) kd_81 (by omega) (by omega) dX4_put_45 rfl ?_
      refine w_aload_n (pc' := 47) (i := 0) (by rfl) (by rfl) dX4_put_46 rfl ?_
      refine w_dup (pc' := 48) dX4_put_47 rfl ?_
      refine v_getI (pc' := 51) (ji := 15) rfl fg_X4_58 kd_75 dX4_put_48 rfl ?_
      show Wp _ _ _ _ _ _ [gI (σ 75 15), gR 75]
      refine w_iconst (pc' := 52) (by decide) dX4_put_51 rfl ?_
      refine v_iadd (pc' := 53) (by omega) dX4_put_52 rfl ?_
      refine v_putI (pc' := 56) (ji := 15) rfl fp_X4_58 kd_75 sf_X4_15 dX4_put_53 rfl ?_
      refine w_return rfl dX4_put_56 ?_
      first | (exfalso; omega) | exact ⟨rfl, rfl⟩
theorem kl75_begin {σ : gH} (r : Int) (h : 0 ≤ r ∧ r < 10) : Mt mX4_begin 0 [gR 75, gI r] σ (rE (gX 1) (gUp (gUp σ 77 r (σ 75 15)) 78 r (σ 75 15))) := by
  refine Mt.walk (ls := [gR 75, gI r]) pn_X4 rfl (fun _ _ h => by cases h.1) (Nat.le_of_ble_eq_true rfl) rfl ?_
  refine w_iload_n (pc' := 1) (i := 1) (by rfl) (by rfl) dX4_begin_0 rfl ?_
  refine w_if_lt (pc' := 4) (t := 30) dX4_begin_1 rfl rfl (fun c_1 => ?_) (fun c_1 => ?_)
  · skip
    refine w_return rfl dX4_begin_30 ?_
    first | (exfalso; omega) | exact ⟨rfl, rfl⟩
  · skip
    refine w_iload_n (pc' := 5) (i := 1) (by rfl) (by rfl) dX4_begin_4 rfl ?_
    refine w_bipush (pc' := 7) (by decide) (by decide) dX4_begin_5 rfl ?_
    refine w_icmp_ge (pc' := 10) (t := 30) dX4_begin_7 rfl rfl (fun c_7 => ?_) (fun c_7 => ?_)
    · skip
      refine w_return rfl dX4_begin_30 ?_
      first | (exfalso; omega) | exact ⟨rfl, rfl⟩
    · skip
      refine w_aload_n (pc' := 11) (i := 0) (by rfl) (by rfl) dX4_begin_10 rfl ?_
      refine w_getS (pc' := 14) (q := 77) fg_X4_28 kd_75 sf_X4_10 gr_75_10 dX4_begin_11 rfl ?_
      refine w_iload_n (pc' := 15) (i := 1) (by rfl) (by rfl) dX4_begin_14 rfl ?_
      refine w_aload_n (pc' := 16) (i := 0) (by rfl) (by rfl) dX4_begin_15 rfl ?_
      refine v_getI (pc' := 19) (ji := 15) rfl fg_X4_58 kd_75 dX4_begin_16 rfl ?_
      refine w_iast (pc' := 20) kd_77 (by omega) (by omega) dX4_begin_19 rfl ?_
      refine w_aload_n (pc' := 21) (i := 0) (by rfl) (by rfl) dX4_begin_20 rfl ?_
      refine w_getS (pc' := 24) (q := 78) fg_X4_31 kd_75 sf_X4_11 gr_75_11 dX4_begin_21 rfl ?_
      refine w_iload_n (pc' := 25) (i := 1) (by rfl) (by rfl) dX4_begin_24 rfl ?_
      refine w_aload_n (pc' := 26) (i := 0) (by rfl) (by rfl) dX4_begin_25 rfl ?_
      refine v_getI (pc' := 29) (ji := 15) rfl fg_X4_58 kd_75 dX4_begin_26 rfl ?_
      show Wp _ _ _ _ _ _ [gI (σ 75 15), gI r, gR 78]
      refine w_iast (pc' := 30) kd_78 (by omega) (by omega) dX4_begin_29 rfl ?_
      refine w_return rfl dX4_begin_30 ?_
      first | (exfalso; omega) | exact ⟨rfl, rfl⟩
theorem kl75_finish {σ : gH} (r : Int) (h : 0 ≤ r ∧ r < 10) : Mt mX4_finish 0 [gR 75, gI r] σ (rE (gX 1) (gUp σ 78 r (σ 75 15))) := by
  refine Mt.walk (ls := [gR 75, gI r]) pn_X4 rfl (fun _ _ h => by cases h.1) (Nat.le_of_ble_eq_true rfl) rfl ?_
  refine w_iload_n (pc' := 1) (i := 1) (by rfl) (by rfl) dX4_finish_0 rfl ?_
  refine w_if_lt (pc' := 4) (t := 20) dX4_finish_1 rfl rfl (fun c_1 => ?_) (fun c_1 => ?_)
  · skip
    refine w_return rfl dX4_finish_20 ?_
    first | (exfalso; omega) | exact ⟨rfl, rfl⟩
  · skip
    refine w_iload_n (pc' := 5) (i := 1) (by rfl) (by rfl) dX4_finish_4 rfl ?_
    refine w_bipush (pc' := 7) (by decide) (by decide) dX4_finish_5 rfl ?_
    refine w_icmp_ge (pc' := 10) (t := 20) dX4_finish_7 rfl rfl (fun c_7 => ?_) (fun c_7 => ?_)
    · skip
      refine w_return rfl dX4_finish_20 ?_
      first | (exfalso; omega) | exact ⟨rfl, rfl⟩
    · skip
      refine w_aload_n (pc' := 11) (i := 0) (by rfl) (by rfl) dX4_finish_10 rfl ?_
      refine w_getS (pc' := 14) (q := 78) fg_X4_31 kd_75 sf_X4_11 gr_75_11 dX4_finish_11 rfl ?_
      refine w_iload_n (pc' := 15) (i := 1) (by rfl) (by rfl) dX4_finish_14 rfl ?_
      refine w_aload_n (pc' := 16) (i := 0) (by rfl) (by rfl) dX4_finish_15 rfl ?_
      refine v_getI (pc' := 19) (ji := 15) rfl fg_X4_58 kd_75 dX4_finish_16 rfl ?_
      refine w_iast (pc' := 20) kd_78 (by omega) (by omega) dX4_finish_19 rfl ?_
      refine w_return rfl dX4_finish_20 ?_
      first | (exfalso; omega) | exact ⟨rfl, rfl⟩
theorem kl75_addTell {σ : gH} (x : Int) (h : 0 ≤ σ 75 3 ∧ σ 75 3 < 8) : Mt mX4_addTell 0 [gR 75, gI x] σ (rE (gI (σ 75 3)) (gUp (gUp σ 76 (σ 75 3) x) 75 3 (σ 75 3 + 1))) := by
  refine Mt.walk (ls := [gR 75, gI x]) pn_X4 rfl (fun _ _ h => by cases h.1) (Nat.le_of_ble_eq_true rfl) rfl ?_
  refine w_aload_n (pc' := 1) (i := 0) (by rfl) (by rfl) dX4_addTell_0 rfl ?_
  refine v_getI (pc' := 4) (ji := 3) rfl fg_X4_52 kd_75 dX4_addTell_1 rfl ?_
  refine w_if_lt (pc' := 7) (t := 16) dX4_addTell_4 rfl rfl (fun c_4 => ?_) (fun c_4 => ?_)
  · skip
    refine w_iconst (pc' := 17) (by decide) dX4_addTell_16 rfl ?_
    refine v_ireturn rfl dX4_addTell_17 ?_
    first | (exfalso; omega) | exact ⟨congrArg gI (by omega), rfl⟩
  · skip
    refine w_aload_n (pc' := 8) (i := 0) (by rfl) (by rfl) dX4_addTell_7 rfl ?_
    refine v_getI (pc' := 11) (ji := 3) rfl fg_X4_52 kd_75 dX4_addTell_8 rfl ?_
    refine w_bipush (pc' := 13) (by decide) (by decide) dX4_addTell_11 rfl ?_
    refine w_icmp_lt (pc' := 16) (t := 18) dX4_addTell_13 rfl rfl (fun c_13 => ?_) (fun c_13 => ?_)
    · skip
      refine w_aload_n (pc' := 19) (i := 0) (by rfl) (by rfl) dX4_addTell_18 rfl ?_
      refine w_getS (pc' := 22) (q := 76) fg_X4_24 kd_75 sf_X4_9 gr_75_9 dX4_addTell_19 rfl ?_
      refine w_aload_n (pc' := 23) (i := 0) (by rfl) (by rfl) dX4_addTell_22 rfl ?_
      refine v_getI (pc' := 26) (ji := 3) rfl fg_X4_52 kd_75 dX4_addTell_23 rfl ?_
      refine w_iload_n (pc' := 27) (i := 1) (by rfl) (by rfl) dX4_addTell_26 rfl ?_
      refine w_iast (pc' := 28) kd_76 (by omega) (by omega) dX4_addTell_27 rfl ?_
      refine w_aload_n (pc' := 29) (i := 0) (by rfl) (by rfl) dX4_addTell_28 rfl ?_
      refine w_dup (pc' := 30) dX4_addTell_29 rfl ?_
      refine v_getI (pc' := 33) (ji := 3) rfl fg_X4_52 kd_75 dX4_addTell_30 rfl ?_
      show Wp _ _ _ _ _ _ [gI (σ 75 3), gR 75]
      refine w_iconst (pc' := 34) (by decide) dX4_addTell_33 rfl ?_
      refine v_iadd (pc' := 35) (by omega) dX4_addTell_34 rfl ?_
      refine v_putI (pc' := 38) (ji := 3) rfl fp_X4_52 kd_75 sf_X4_3 dX4_addTell_35 rfl ?_
      refine w_aload_n (pc' := 39) (i := 0) (by rfl) (by rfl) dX4_addTell_38 rfl ?_
      refine v_getI (pc' := 42) (ji := 3) rfl fg_X4_52 kd_75 dX4_addTell_39 rfl ?_
      show Wp _ _ _ _ _ _ [gI ((σ 75 3) + 1)]
      refine w_iconst (pc' := 43) (by decide) dX4_addTell_42 rfl ?_
      refine v_isub (pc' := 44) (by omega) dX4_addTell_43 rfl ?_
      refine v_ireturn rfl dX4_addTell_44 ?_
      first | (exfalso; omega) | exact ⟨congrArg gI (by omega), rfl⟩
    · skip
      refine w_iconst (pc' := 17) (by decide) dX4_addTell_16 rfl ?_
      refine v_ireturn rfl dX4_addTell_17 ?_
      first | (exfalso; omega) | exact ⟨congrArg gI (by omega), rfl⟩
theorem kl75_countRule {σ : gH} (h : 0 ≤ σ 75 2 ∧ σ 75 2 < 600) : Mt mX4_countRule 0 [gR 75] σ (rE (gX 1) (gUp σ 75 2 (σ 75 2 + 1))) := by
  refine Mt.walk (ls := [gR 75]) pn_X4 rfl (fun _ _ h => by cases h.1) (Nat.le_of_ble_eq_true rfl) rfl ?_
  refine w_aload_n (pc' := 1) (i := 0) (by rfl) (by rfl) dX4_countRule_0 rfl ?_
  refine w_dup (pc' := 2) dX4_countRule_1 rfl ?_
  refine v_getI (pc' := 5) (ji := 2) rfl fg_X4_49 kd_75 dX4_countRule_2 rfl ?_
  refine w_iconst (pc' := 6) (by decide) dX4_countRule_5 rfl ?_
  refine v_iadd (pc' := 7) (by omega) dX4_countRule_6 rfl ?_
  refine v_putI (pc' := 10) (ji := 2) rfl fp_X4_49 kd_75 sf_X4_2 dX4_countRule_7 rfl ?_
  refine w_return rfl dX4_countRule_10 ?_
  first | (exfalso; omega) | exact ⟨rfl, rfl⟩
theorem kl75_totalTells {σ : gH}  : Mt mX4_totalTells 0 [gR 75] σ (rE (gI (σ 75 3)) σ) := by
  refine Mt.walk (ls := [gR 75]) pn_X4 rfl (fun _ _ h => by cases h.1) (Nat.le_of_ble_eq_true rfl) rfl ?_
  refine w_aload_n (pc' := 1) (i := 0) (by rfl) (by rfl) dX4_totalTells_0 rfl ?_
  refine v_getI (pc' := 4) (ji := 3) rfl fg_X4_52 kd_75 dX4_totalTells_1 rfl ?_
  refine v_ireturn rfl dX4_totalTells_4 ?_
  first | (exfalso; omega) | exact ⟨rfl, rfl⟩

theorem kl75_set {σ : gH} (x n : Int) : Mt mX4_set 0 [gR 75, gI x, gI n] σ (rE (gX 1) (gUp σ 75 (stJ x) n)) := by
  refine Mt.walk (ls := [gR 75, gI x, gI n]) pn_X4 rfl (fun _ _ h => by cases h.1) (Nat.le_of_ble_eq_true rfl) rfl ?_
  refine w_iload_n (pc' := 1) (i := 1) (by rfl) (by rfl) dX4_set_0 rfl ?_
  by_cases c_1_8 : x = 8
  · refine w_lookup (pc' := 44) (off := 43) dX4_set_1 (by decide) (by rw [c_1_8]; rfl) rfl ?_
    refine w_aload_n (pc' := 45) (i := 0) (by rfl) (by rfl) dX4_set_44 rfl ?_
    refine w_iload_n (pc' := 46) (i := 2) (by rfl) (by rfl) dX4_set_45 rfl ?_
    refine v_putI (pc' := 49) (ji := 4) rfl fp_X4_11 kd_75 sf_X4_4 dX4_set_46 rfl ?_
    refine w_goto (pc' := 81) dX4_set_49 rfl ?_
    refine w_return rfl dX4_set_81 ?_
    exact ⟨rfl, by rw [show stJ x = 4 by unfold stJ; (repeat' split) <;> omega]⟩
  by_cases c_1_22 : x = 22
  · refine w_lookup (pc' := 52) (off := 51) dX4_set_1 (by decide) (by rw [c_1_22]; rfl) rfl ?_
    refine w_aload_n (pc' := 53) (i := 0) (by rfl) (by rfl) dX4_set_52 rfl ?_
    refine w_iload_n (pc' := 54) (i := 2) (by rfl) (by rfl) dX4_set_53 rfl ?_
    refine v_putI (pc' := 57) (ji := 5) rfl fp_X4_15 kd_75 sf_X4_5 dX4_set_54 rfl ?_
    refine w_goto (pc' := 81) dX4_set_57 rfl ?_
    refine w_return rfl dX4_set_81 ?_
    exact ⟨rfl, by rw [show stJ x = 5 by unfold stJ; (repeat' split) <;> omega]⟩
  by_cases c_1_23 : x = 23
  · refine w_lookup (pc' := 60) (off := 59) dX4_set_1 (by decide) (by rw [c_1_23]; rfl) rfl ?_
    refine w_aload_n (pc' := 61) (i := 0) (by rfl) (by rfl) dX4_set_60 rfl ?_
    refine w_iload_n (pc' := 62) (i := 2) (by rfl) (by rfl) dX4_set_61 rfl ?_
    refine v_putI (pc' := 65) (ji := 6) rfl fp_X4_18 kd_75 sf_X4_6 dX4_set_62 rfl ?_
    refine w_goto (pc' := 81) dX4_set_65 rfl ?_
    refine w_return rfl dX4_set_81 ?_
    exact ⟨rfl, by rw [show stJ x = 6 by unfold stJ; (repeat' split) <;> omega]⟩
  by_cases c_1_24 : x = 24
  · refine w_lookup (pc' := 68) (off := 67) dX4_set_1 (by decide) (by rw [c_1_24]; rfl) rfl ?_
    refine w_aload_n (pc' := 69) (i := 0) (by rfl) (by rfl) dX4_set_68 rfl ?_
    refine w_iload_n (pc' := 70) (i := 2) (by rfl) (by rfl) dX4_set_69 rfl ?_
    refine v_putI (pc' := 73) (ji := 7) rfl fp_X4_21 kd_75 sf_X4_7 dX4_set_70 rfl ?_
    refine w_goto (pc' := 81) dX4_set_73 rfl ?_
    refine w_return rfl dX4_set_81 ?_
    exact ⟨rfl, by rw [show stJ x = 7 by unfold stJ; (repeat' split) <;> omega]⟩
  refine w_lookup (pc' := 76) (off := 75) dX4_set_1 (by decide) (by simp [Op.lookupswitch.offset, Ne.symm c_1_8, c_1_8, Ne.symm c_1_22, c_1_22, Ne.symm c_1_23, c_1_23, Ne.symm c_1_24, c_1_24]) rfl ?_
  refine w_aload_n (pc' := 77) (i := 0) (by rfl) (by rfl) dX4_set_76 rfl ?_
  refine w_iload_n (pc' := 78) (i := 2) (by rfl) (by rfl) dX4_set_77 rfl ?_
  refine v_putI (pc' := 81) (ji := 8) rfl fp_X4_55 kd_75 sf_X4_8 dX4_set_78 rfl ?_
  refine w_return rfl dX4_set_81 ?_
  exact ⟨rfl, by rw [show stJ x = 8 by unfold stJ; (repeat' split) <;> omega]⟩
theorem kl75_clear {σ : gH} (f k : Int) : Mt mX4_clear 1 [gR 75, gI f, gI k] σ (rE (gX 1) (gUr (gUr (gUp (gUp (gUp (gUp (gUp (gUp (gUp (gUp (gUp (gUp σ 75 1 f) 75 0 k) 75 2 0) 75 3 0) 75 4 1) 75 5 365) 75 6 365) 75 7 90) 75 8 0) 75 15 0) 77 (fillF (σ 77) 10 0)) 78 (fillF (σ 78) 10 0))) := by
  refine Mt.walk (ls := [gR 75, gI f, gI k]) pn_X4 rfl (fun _ _ h => by cases h.1) (Nat.le_of_ble_eq_true rfl) rfl ?_
  refine w_aload_n (pc' := 1) (i := 0) (by rfl) (by rfl) dX4_clear_0 rfl ?_
  refine w_iload_n (pc' := 2) (i := 1) (by rfl) (by rfl) dX4_clear_1 rfl ?_
  refine v_putI (pc' := 5) (ji := 1) rfl fp_X4_43 kd_75 sf_X4_1 dX4_clear_2 rfl ?_
  refine w_aload_n (pc' := 6) (i := 0) (by rfl) (by rfl) dX4_clear_5 rfl ?_
  refine w_iload_n (pc' := 7) (i := 2) (by rfl) (by rfl) dX4_clear_6 rfl ?_
  refine v_putI (pc' := 10) (ji := 0) rfl fp_X4_46 kd_75 sf_X4_0 dX4_clear_7 rfl ?_
  refine w_aload_n (pc' := 11) (i := 0) (by rfl) (by rfl) dX4_clear_10 rfl ?_
  refine w_iconst (pc' := 12) (by decide) dX4_clear_11 rfl ?_
  refine v_putI (pc' := 15) (ji := 2) rfl fp_X4_49 kd_75 sf_X4_2 dX4_clear_12 rfl ?_
  refine w_aload_n (pc' := 16) (i := 0) (by rfl) (by rfl) dX4_clear_15 rfl ?_
  refine w_iconst (pc' := 17) (by decide) dX4_clear_16 rfl ?_
  refine v_putI (pc' := 20) (ji := 3) rfl fp_X4_52 kd_75 sf_X4_3 dX4_clear_17 rfl ?_
  refine w_aload_n (pc' := 21) (i := 0) (by rfl) (by rfl) dX4_clear_20 rfl ?_
  refine w_iconst (pc' := 22) (by decide) dX4_clear_21 rfl ?_
  refine v_putI (pc' := 25) (ji := 4) rfl fp_X4_11 kd_75 sf_X4_4 dX4_clear_22 rfl ?_
  refine w_aload_n (pc' := 26) (i := 0) (by rfl) (by rfl) dX4_clear_25 rfl ?_
  refine w_sipush (pc' := 29) (by decide) (by decide) dX4_clear_26 rfl ?_
  refine v_putI (pc' := 32) (ji := 5) rfl fp_X4_15 kd_75 sf_X4_5 dX4_clear_29 rfl ?_
  refine w_aload_n (pc' := 33) (i := 0) (by rfl) (by rfl) dX4_clear_32 rfl ?_
  refine w_sipush (pc' := 36) (by decide) (by decide) dX4_clear_33 rfl ?_
  refine v_putI (pc' := 39) (ji := 6) rfl fp_X4_18 kd_75 sf_X4_6 dX4_clear_36 rfl ?_
  refine w_aload_n (pc' := 40) (i := 0) (by rfl) (by rfl) dX4_clear_39 rfl ?_
  refine w_bipush (pc' := 42) (by decide) (by decide) dX4_clear_40 rfl ?_
  refine v_putI (pc' := 45) (ji := 7) rfl fp_X4_21 kd_75 sf_X4_7 dX4_clear_42 rfl ?_
  refine w_aload_n (pc' := 46) (i := 0) (by rfl) (by rfl) dX4_clear_45 rfl ?_
  refine w_iconst (pc' := 47) (by decide) dX4_clear_46 rfl ?_
  refine v_putI (pc' := 50) (ji := 8) rfl fp_X4_55 kd_75 sf_X4_8 dX4_clear_47 rfl ?_
  refine w_aload_n (pc' := 51) (i := 0) (by rfl) (by rfl) dX4_clear_50 rfl ?_
  refine w_iconst (pc' := 52) (by decide) dX4_clear_51 rfl ?_
  refine v_putI (pc' := 55) (ji := 15) rfl fp_X4_58 kd_75 sf_X4_15 dX4_clear_52 rfl ?_
  refine w_aload_n (pc' := 56) (i := 0) (by rfl) (by rfl) dX4_clear_55 rfl ?_
  refine w_getS (pc' := 59) (q := 77) fg_X4_28 kd_75 sf_X4_10 gr_75_10 dX4_clear_56 rfl ?_
  refine w_iconst (pc' := 60) (by decide) dX4_clear_59 rfl ?_
  refine v_callSE (pc' := 63) (st' := []) (d' := 0) (av := [gR 77, gI 0]) ms_mJ7_fill_53178 st_mJ7_fill_53178 lk_X4_61 rfl rfl (Nat.le_of_ble_eq_true rfl) (Nat.le_of_ble_eq_true rfl) dX4_clear_60 rfl rfl (k_fillI (x := 77) (n := 10) kd_77 (by decide) (gUp (gUp (gUp (gUp (gUp (gUp (gUp (gUp (gUp (gUp σ 75 1 f) 75 0 k) 75 2 0) 75 3 0) 75 4 1) 75 5 365) 75 6 365) 75 7 90) 75 8 0) 75 15 0) 0) ?_
  refine w_aload_n (pc' := 64) (i := 0) (by rfl) (by rfl) dX4_clear_63 rfl ?_
  refine w_getS (pc' := 67) (q := 78) fg_X4_31 kd_75 sf_X4_11 gr_75_11 dX4_clear_64 rfl ?_
  refine w_iconst (pc' := 68) (by decide) dX4_clear_67 rfl ?_
  refine v_callSE (pc' := 71) (st' := []) (d' := 0) (av := [gR 78, gI 0]) ms_mJ7_fill_53178 st_mJ7_fill_53178 lk_X4_61 rfl rfl (Nat.le_of_ble_eq_true rfl) (Nat.le_of_ble_eq_true rfl) dX4_clear_68 rfl rfl (k_fillI (x := 78) (n := 10) kd_78 (by decide) (gUr (gUp (gUp (gUp (gUp (gUp (gUp (gUp (gUp (gUp (gUp σ 75 1 f) 75 0 k) 75 2 0) 75 3 0) 75 4 1) 75 5 365) 75 6 365) 75 7 90) 75 8 0) 75 15 0) 77 (fillF (σ 77) 10 0)) 0) ?_
  refine w_return rfl dX4_clear_71 ?_
  first | (exfalso; omega) | exact ⟨rfl, rfl⟩
theorem kl82_put {σ : gH} (m s n : Int) (h : 0 ≤ σ 82 15 ∧ σ 82 15 < 120) : Mt mX4_put 0 [gR 82, gI m, gI s, gI n] σ (rE (gX 1) (gUp (gUp (gUp (gUp σ 86 (σ 82 15) m) 87 (σ 82 15) s) 88 (σ 82 15) n) 82 15 (σ 82 15 + 1))) := by
  refine Mt.walk (ls := [gR 82, gI m, gI s, gI n]) pn_X4 rfl (fun _ _ h => by cases h.1) (Nat.le_of_ble_eq_true rfl) rfl ?_
  refine w_aload_n (pc' := 1) (i := 0) (by rfl) (by rfl) dX4_put_0 rfl ?_
  refine v_getI (pc' := 4) (ji := 15) rfl fg_X4_58 kd_82 dX4_put_1 rfl ?_
  refine w_if_lt (pc' := 7) (t := 56) dX4_put_4 rfl rfl (fun c_4 => ?_) (fun c_4 => ?_)
  · skip
    refine w_return rfl dX4_put_56 ?_
    first | (exfalso; omega) | exact ⟨rfl, rfl⟩
  · skip
    refine w_aload_n (pc' := 8) (i := 0) (by rfl) (by rfl) dX4_put_7 rfl ?_
    refine v_getI (pc' := 11) (ji := 15) rfl fg_X4_58 kd_82 dX4_put_8 rfl ?_
    refine w_bipush (pc' := 13) (by decide) (by decide) dX4_put_11 rfl ?_
    refine w_icmp_ge (pc' := 16) (t := 56) dX4_put_13 rfl rfl (fun c_13 => ?_) (fun c_13 => ?_)
    · skip
      refine w_return rfl dX4_put_56 ?_
      first | (exfalso; omega) | exact ⟨rfl, rfl⟩
    · skip
      refine w_aload_n (pc' := 17) (i := 0) (by rfl) (by rfl) dX4_put_16 rfl ?_
      refine w_getS (pc' := 20) (q := 86) fg_X4_34 kd_82 sf_X4_12 gr_82_12 dX4_put_17 rfl ?_
      refine w_aload_n (pc' := 21) (i := 0) (by rfl) (by rfl) dX4_put_20 rfl ?_
      refine v_getI (pc' := 24) (ji := 15) rfl fg_X4_58 kd_82 dX4_put_21 rfl ?_
      refine w_iload_n (pc' := 25) (i := 1) (by rfl) (by rfl) dX4_put_24 rfl ?_
      refine w_iast (pc' := 26) kd_86 (by omega) (by omega) dX4_put_25 rfl ?_
      refine w_aload_n (pc' := 27) (i := 0) (by rfl) (by rfl) dX4_put_26 rfl ?_
      refine w_getS (pc' := 30) (q := 87) fg_X4_37 kd_82 sf_X4_13 gr_82_13 dX4_put_27 rfl ?_
      refine w_aload_n (pc' := 31) (i := 0) (by rfl) (by rfl) dX4_put_30 rfl ?_
      refine v_getI (pc' := 34) (ji := 15) rfl fg_X4_58 kd_82 dX4_put_31 rfl ?_
      show Wp _ _ _ _ _ _ [gI (σ 82 15), gR 87]
      refine w_iload_n (pc' := 35) (i := 2) (by rfl) (by rfl) dX4_put_34 rfl ?_
      refine w_iast (pc' := 36) kd_87 (by omega) (by omega) dX4_put_35 rfl ?_
      refine w_aload_n (pc' := 37) (i := 0) (by rfl) (by rfl) dX4_put_36 rfl ?_
      refine w_getS (pc' := 40) (q := 88) fg_X4_40 kd_82 sf_X4_14 gr_82_14 dX4_put_37 rfl ?_
      refine w_aload_n (pc' := 41) (i := 0) (by rfl) (by rfl) dX4_put_40 rfl ?_
      refine v_getI (pc' := 44) (ji := 15) rfl fg_X4_58 kd_82 dX4_put_41 rfl ?_
      show Wp _ _ _ _ _ _ [gI (σ 82 15), gR 88]
      refine w_iload_n (pc' := 45) (i := 3) (by rfl) (by rfl) dX4_put_44 rfl ?_
      refine w_iast (pc' := 46) kd_88 (by omega) (by omega) dX4_put_45 rfl ?_
      refine w_aload_n (pc' := 47) (i := 0) (by rfl) (by rfl) dX4_put_46 rfl ?_
      refine w_dup (pc' := 48) dX4_put_47 rfl ?_
      refine v_getI (pc' := 51) (ji := 15) rfl fg_X4_58 kd_82 dX4_put_48 rfl ?_
      show Wp _ _ _ _ _ _ [gI (σ 82 15), gR 82]
      refine w_iconst (pc' := 52) (by decide) dX4_put_51 rfl ?_
      refine v_iadd (pc' := 53) (by omega) dX4_put_52 rfl ?_
      refine v_putI (pc' := 56) (ji := 15) rfl fp_X4_58 kd_82 sf_X4_15 dX4_put_53 rfl ?_
      refine w_return rfl dX4_put_56 ?_
      first | (exfalso; omega) | exact ⟨rfl, rfl⟩
theorem kl82_begin {σ : gH} (r : Int) (h : 0 ≤ r ∧ r < 10) : Mt mX4_begin 0 [gR 82, gI r] σ (rE (gX 1) (gUp (gUp σ 84 r (σ 82 15)) 85 r (σ 82 15))) := by
  refine Mt.walk (ls := [gR 82, gI r]) pn_X4 rfl (fun _ _ h => by cases h.1) (Nat.le_of_ble_eq_true rfl) rfl ?_
  refine w_iload_n (pc' := 1) (i := 1) (by rfl) (by rfl) dX4_begin_0 rfl ?_
  refine w_if_lt (pc' := 4) (t := 30) dX4_begin_1 rfl rfl (fun c_1 => ?_) (fun c_1 => ?_)
  · skip
    refine w_return rfl dX4_begin_30 ?_
    first | (exfalso; omega) | exact ⟨rfl, rfl⟩
  · skip
    refine w_iload_n (pc' := 5) (i := 1) (by rfl) (by rfl) dX4_begin_4 rfl ?_
    refine w_bipush (pc' := 7) (by decide) (by decide) dX4_begin_5 rfl ?_
    refine w_icmp_ge (pc' := 10) (t := 30) dX4_begin_7 rfl rfl (fun c_7 => ?_) (fun c_7 => ?_)
    · skip
      refine w_return rfl dX4_begin_30 ?_
      first | (exfalso; omega) | exact ⟨rfl, rfl⟩
    · skip
      refine w_aload_n (pc' := 11) (i := 0) (by rfl) (by rfl) dX4_begin_10 rfl ?_
      refine w_getS (pc' := 14) (q := 84) fg_X4_28 kd_82 sf_X4_10 gr_82_10 dX4_begin_11 rfl ?_
      refine w_iload_n (pc' := 15) (i := 1) (by rfl) (by rfl) dX4_begin_14 rfl ?_
      refine w_aload_n (pc' := 16) (i := 0) (by rfl) (by rfl) dX4_begin_15 rfl ?_
      refine v_getI (pc' := 19) (ji := 15) rfl fg_X4_58 kd_82 dX4_begin_16 rfl ?_
      refine w_iast (pc' := 20) kd_84 (by omega) (by omega) dX4_begin_19 rfl ?_
      refine w_aload_n (pc' := 21) (i := 0) (by rfl) (by rfl) dX4_begin_20 rfl ?_
      refine w_getS (pc' := 24) (q := 85) fg_X4_31 kd_82 sf_X4_11 gr_82_11 dX4_begin_21 rfl ?_
      refine w_iload_n (pc' := 25) (i := 1) (by rfl) (by rfl) dX4_begin_24 rfl ?_
      refine w_aload_n (pc' := 26) (i := 0) (by rfl) (by rfl) dX4_begin_25 rfl ?_
      refine v_getI (pc' := 29) (ji := 15) rfl fg_X4_58 kd_82 dX4_begin_26 rfl ?_
      show Wp _ _ _ _ _ _ [gI (σ 82 15), gI r, gR 85]
      refine w_iast (pc' := 30) kd_85 (by omega) (by omega) dX4_begin_29 rfl ?_
      refine w_return rfl dX4_begin_30 ?_
      first | (exfalso; omega) | exact ⟨rfl, rfl⟩
theorem kl82_finish {σ : gH} (r : Int) (h : 0 ≤ r ∧ r < 10) : Mt mX4_finish 0 [gR 82, gI r] σ (rE (gX 1) (gUp σ 85 r (σ 82 15))) := by
  refine Mt.walk (ls := [gR 82, gI r]) pn_X4 rfl (fun _ _ h => by cases h.1) (Nat.le_of_ble_eq_true rfl) rfl ?_
  refine w_iload_n (pc' := 1) (i := 1) (by rfl) (by rfl) dX4_finish_0 rfl ?_
  refine w_if_lt (pc' := 4) (t := 20) dX4_finish_1 rfl rfl (fun c_1 => ?_) (fun c_1 => ?_)
  · skip
    refine w_return rfl dX4_finish_20 ?_
    first | (exfalso; omega) | exact ⟨rfl, rfl⟩
  · skip
    refine w_iload_n (pc' := 5) (i := 1) (by rfl) (by rfl) dX4_finish_4 rfl ?_
    refine w_bipush (pc' := 7) (by decide) (by decide) dX4_finish_5 rfl ?_
    refine w_icmp_ge (pc' := 10) (t := 20) dX4_finish_7 rfl rfl (fun c_7 => ?_) (fun c_7 => ?_)
    · skip
      refine w_return rfl dX4_finish_20 ?_
      first | (exfalso; omega) | exact ⟨rfl, rfl⟩
    · skip
      refine w_aload_n (pc' := 11) (i := 0) (by rfl) (by rfl) dX4_finish_10 rfl ?_
      refine w_getS (pc' := 14) (q := 85) fg_X4_31 kd_82 sf_X4_11 gr_82_11 dX4_finish_11 rfl ?_
      refine w_iload_n (pc' := 15) (i := 1) (by rfl) (by rfl) dX4_finish_14 rfl ?_
      refine w_aload_n (pc' := 16) (i := 0) (by rfl) (by rfl) dX4_finish_15 rfl ?_
      refine v_getI (pc' := 19) (ji := 15) rfl fg_X4_58 kd_82 dX4_finish_16 rfl ?_
      refine w_iast (pc' := 20) kd_85 (by omega) (by omega) dX4_finish_19 rfl ?_
      refine w_return rfl dX4_finish_20 ?_
      first | (exfalso; omega) | exact ⟨rfl, rfl⟩
theorem kl82_addTell {σ : gH} (x : Int) (h : 0 ≤ σ 82 3 ∧ σ 82 3 < 8) : Mt mX4_addTell 0 [gR 82, gI x] σ (rE (gI (σ 82 3)) (gUp (gUp σ 83 (σ 82 3) x) 82 3 (σ 82 3 + 1))) := by
  refine Mt.walk (ls := [gR 82, gI x]) pn_X4 rfl (fun _ _ h => by cases h.1) (Nat.le_of_ble_eq_true rfl) rfl ?_
  refine w_aload_n (pc' := 1) (i := 0) (by rfl) (by rfl) dX4_addTell_0 rfl ?_
  refine v_getI (pc' := 4) (ji := 3) rfl fg_X4_52 kd_82 dX4_addTell_1 rfl ?_
  refine w_if_lt (pc' := 7) (t := 16) dX4_addTell_4 rfl rfl (fun c_4 => ?_) (fun c_4 => ?_)
  · skip
    refine w_iconst (pc' := 17) (by decide) dX4_addTell_16 rfl ?_
    refine v_ireturn rfl dX4_addTell_17 ?_
    first | (exfalso; omega) | exact ⟨congrArg gI (by omega), rfl⟩
  · skip
    refine w_aload_n (pc' := 8) (i := 0) (by rfl) (by rfl) dX4_addTell_7 rfl ?_
    refine v_getI (pc' := 11) (ji := 3) rfl fg_X4_52 kd_82 dX4_addTell_8 rfl ?_
    refine w_bipush (pc' := 13) (by decide) (by decide) dX4_addTell_11 rfl ?_
    refine w_icmp_lt (pc' := 16) (t := 18) dX4_addTell_13 rfl rfl (fun c_13 => ?_) (fun c_13 => ?_)
    · skip
      refine w_aload_n (pc' := 19) (i := 0) (by rfl) (by rfl) dX4_addTell_18 rfl ?_
      refine w_getS (pc' := 22) (q := 83) fg_X4_24 kd_82 sf_X4_9 gr_82_9 dX4_addTell_19 rfl ?_
      refine w_aload_n (pc' := 23) (i := 0) (by rfl) (by rfl) dX4_addTell_22 rfl ?_
      refine v_getI (pc' := 26) (ji := 3) rfl fg_X4_52 kd_82 dX4_addTell_23 rfl ?_
      refine w_iload_n (pc' := 27) (i := 1) (by rfl) (by rfl) dX4_addTell_26 rfl ?_
      refine w_iast (pc' := 28) kd_83 (by omega) (by omega) dX4_addTell_27 rfl ?_
      refine w_aload_n (pc' := 29) (i := 0) (by rfl) (by rfl) dX4_addTell_28 rfl ?_
      refine w_dup (pc' := 30) dX4_addTell_29 rfl ?_
      refine v_getI (pc' := 33) (ji := 3) rfl fg_X4_52 kd_82 dX4_addTell_30 rfl ?_
      show Wp _ _ _ _ _ _ [gI (σ 82 3), gR 82]
      refine w_iconst (pc' := 34) (by decide) dX4_addTell_33 rfl ?_
      refine v_iadd (pc' := 35) (by omega) dX4_addTell_34 rfl ?_
      refine v_putI (pc' := 38) (ji := 3) rfl fp_X4_52 kd_82 sf_X4_3 dX4_addTell_35 rfl ?_
      refine w_aload_n (pc' := 39) (i := 0) (by rfl) (by rfl) dX4_addTell_38 rfl ?_
      refine v_getI (pc' := 42) (ji := 3) rfl fg_X4_52 kd_82 dX4_addTell_39 rfl ?_
      show Wp _ _ _ _ _ _ [gI ((σ 82 3) + 1)]
      refine w_iconst (pc' := 43) (by decide) dX4_addTell_42 rfl ?_
      refine v_isub (pc' := 44) (by omega) dX4_addTell_43 rfl ?_
      refine v_ireturn rfl dX4_addTell_44 ?_
      first | (exfalso; omega) | exact ⟨congrArg gI (by omega), rfl⟩
    · skip
      refine w_iconst (pc' := 17) (by decide) dX4_addTell_16 rfl ?_
      refine v_ireturn rfl dX4_addTell_17 ?_
      first | (exfalso; omega) | exact ⟨congrArg gI (by omega), rfl⟩
theorem kl82_countRule {σ : gH} (h : 0 ≤ σ 82 2 ∧ σ 82 2 < 600) : Mt mX4_countRule 0 [gR 82] σ (rE (gX 1) (gUp σ 82 2 (σ 82 2 + 1))) := by
  refine Mt.walk (ls := [gR 82]) pn_X4 rfl (fun _ _ h => by cases h.1) (Nat.le_of_ble_eq_true rfl) rfl ?_
  refine w_aload_n (pc' := 1) (i := 0) (by rfl) (by rfl) dX4_countRule_0 rfl ?_
  refine w_dup (pc' := 2) dX4_countRule_1 rfl ?_
  refine v_getI (pc' := 5) (ji := 2) rfl fg_X4_49 kd_82 dX4_countRule_2 rfl ?_
  refine w_iconst (pc' := 6) (by decide) dX4_countRule_5 rfl ?_
  refine v_iadd (pc' := 7) (by omega) dX4_countRule_6 rfl ?_
  refine v_putI (pc' := 10) (ji := 2) rfl fp_X4_49 kd_82 sf_X4_2 dX4_countRule_7 rfl ?_
  refine w_return rfl dX4_countRule_10 ?_
  first | (exfalso; omega) | exact ⟨rfl, rfl⟩
theorem kl82_totalTells {σ : gH}  : Mt mX4_totalTells 0 [gR 82] σ (rE (gI (σ 82 3)) σ) := by
  refine Mt.walk (ls := [gR 82]) pn_X4 rfl (fun _ _ h => by cases h.1) (Nat.le_of_ble_eq_true rfl) rfl ?_
  refine w_aload_n (pc' := 1) (i := 0) (by rfl) (by rfl) dX4_totalTells_0 rfl ?_
  refine v_getI (pc' := 4) (ji := 3) rfl fg_X4_52 kd_82 dX4_totalTells_1 rfl ?_
  refine v_ireturn rfl dX4_totalTells_4 ?_
  first | (exfalso; omega) | exact ⟨rfl, rfl⟩

theorem kl82_set {σ : gH} (x n : Int) : Mt mX4_set 0 [gR 82, gI x, gI n] σ (rE (gX 1) (gUp σ 82 (stJ x) n)) := by
  refine Mt.walk (ls := [gR 82, gI x, gI n]) pn_X4 rfl (fun _ _ h => by cases h.1) (Nat.le_of_ble_eq_true rfl) rfl ?_
  refine w_iload_n (pc' := 1) (i := 1) (by rfl) (by rfl) dX4_set_0 rfl ?_
  by_cases c_1_8 : x = 8
  · refine w_lookup (pc' := 44) (off := 43) dX4_set_1 (by decide) (by rw [c_1_8]; rfl) rfl ?_
    refine w_aload_n (pc' := 45) (i := 0) (by rfl) (by rfl) dX4_set_44 rfl ?_
    refine w_iload_n (pc' := 46) (i := 2) (by rfl) (by rfl) dX4_set_45 rfl ?_
    refine v_putI (pc' := 49) (ji := 4) rfl fp_X4_11 kd_82 sf_X4_4 dX4_set_46 rfl ?_
    refine w_goto (pc' := 81) dX4_set_49 rfl ?_
    refine w_return rfl dX4_set_81 ?_
    exact ⟨rfl, by rw [show stJ x = 4 by unfold stJ; (repeat' split) <;> omega]⟩
  by_cases c_1_22 : x = 22
  · refine w_lookup (pc' := 52) (off := 51) dX4_set_1 (by decide) (by rw [c_1_22]; rfl) rfl ?_
    refine w_aload_n (pc' := 53) (i := 0) (by rfl) (by rfl) dX4_set_52 rfl ?_
    refine w_iload_n (pc' := 54) (i := 2) (by rfl) (by rfl) dX4_set_53 rfl ?_
    refine v_putI (pc' := 57) (ji := 5) rfl fp_X4_15 kd_82 sf_X4_5 dX4_set_54 rfl ?_
    refine w_goto (pc' := 81) dX4_set_57 rfl ?_
    refine w_return rfl dX4_set_81 ?_
    exact ⟨rfl, by rw [show stJ x = 5 by unfold stJ; (repeat' split) <;> omega]⟩
  by_cases c_1_23 : x = 23
  · refine w_lookup (pc' := 60) (off := 59) dX4_set_1 (by decide) (by rw [c_1_23]; rfl) rfl ?_
    refine w_aload_n (pc' := 61) (i := 0) (by rfl) (by rfl) dX4_set_60 rfl ?_
    refine w_iload_n (pc' := 62) (i := 2) (by rfl) (by rfl) dX4_set_61 rfl ?_
    refine v_putI (pc' := 65) (ji := 6) rfl fp_X4_18 kd_82 sf_X4_6 dX4_set_62 rfl ?_
    refine w_goto (pc' := 81) dX4_set_65 rfl ?_
    refine w_return rfl dX4_set_81 ?_
    exact ⟨rfl, by rw [show stJ x = 6 by unfold stJ; (repeat' split) <;> omega]⟩
  by_cases c_1_24 : x = 24
  · refine w_lookup (pc' := 68) (off := 67) dX4_set_1 (by decide) (by rw [c_1_24]; rfl) rfl ?_
    refine w_aload_n (pc' := 69) (i := 0) (by rfl) (by rfl) dX4_set_68 rfl ?_
    refine w_iload_n (pc' := 70) (i := 2) (by rfl) (by rfl) dX4_set_69 rfl ?_
    refine v_putI (pc' := 73) (ji := 7) rfl fp_X4_21 kd_82 sf_X4_7 dX4_set_70 rfl ?_
    refine w_goto (pc' := 81) dX4_set_73 rfl ?_
    refine w_return rfl dX4_set_81 ?_
    exact ⟨rfl, by rw [show stJ x = 7 by unfold stJ; (repeat' split) <;> omega]⟩
  refine w_lookup (pc' := 76) (off := 75) dX4_set_1 (by decide) (by simp [Op.lookupswitch.offset, Ne.symm c_1_8, c_1_8, Ne.symm c_1_22, c_1_22, Ne.symm c_1_23, c_1_23, Ne.symm c_1_24, c_1_24]) rfl ?_
  refine w_aload_n (pc' := 77) (i := 0) (by rfl) (by rfl) dX4_set_76 rfl ?_
  refine w_iload_n (pc' := 78) (i := 2) (by rfl) (by rfl) dX4_set_77 rfl ?_
  refine v_putI (pc' := 81) (ji := 8) rfl fp_X4_55 kd_82 sf_X4_8 dX4_set_78 rfl ?_
  refine w_return rfl dX4_set_81 ?_
  exact ⟨rfl, by rw [show stJ x = 8 by unfold stJ; (repeat' split) <;> omega]⟩
theorem kl82_clear {σ : gH} (f k : Int) : Mt mX4_clear 1 [gR 82, gI f, gI k] σ (rE (gX 1) (gUr (gUr (gUp (gUp (gUp (gUp (gUp (gUp (gUp (gUp (gUp (gUp σ 82 1 f) 82 0 k) 82 2 0) 82 3 0) 82 4 1) 82 5 365) 82 6 365) 82 7 90) 82 8 0) 82 15 0) 84 (fillF (σ 84) 10 0)) 85 (fillF (σ 85) 10 0))) := by
  refine Mt.walk (ls := [gR 82, gI f, gI k]) pn_X4 rfl (fun _ _ h => by cases h.1) (Nat.le_of_ble_eq_true rfl) rfl ?_
  refine w_aload_n (pc' := 1) (i := 0) (by rfl) (by rfl) dX4_clear_0 rfl ?_
  refine w_iload_n (pc' := 2) (i := 1) (by rfl) (by rfl) dX4_clear_1 rfl ?_
  refine v_putI (pc' := 5) (ji := 1) rfl fp_X4_43 kd_82 sf_X4_1 dX4_clear_2 rfl ?_
  refine w_aload_n (pc' := 6) (i := 0) (by rfl) (by rfl) dX4_clear_5 rfl ?_
  refine w_iload_n (pc' := 7) (i := 2) (by rfl) (by rfl) dX4_clear_6 rfl ?_
  refine v_putI (pc' := 10) (ji := 0) rfl fp_X4_46 kd_82 sf_X4_0 dX4_clear_7 rfl ?_
  refine w_aload_n (pc' := 11) (i := 0) (by rfl) (by rfl) dX4_clear_10 rfl ?_
  refine w_iconst (pc' := 12) (by decide) dX4_clear_11 rfl ?_
  refine v_putI (pc' := 15) (ji := 2) rfl fp_X4_49 kd_82 sf_X4_2 dX4_clear_12 rfl ?_
  refine w_aload_n (pc' := 16) (i := 0) (by rfl) (by rfl) dX4_clear_15 rfl ?_
  refine w_iconst (pc' := 17) (by decide) dX4_clear_16 rfl ?_
  refine v_putI (pc' := 20) (ji := 3) rfl fp_X4_52 kd_82 sf_X4_3 dX4_clear_17 rfl ?_
  refine w_aload_n (pc' := 21) (i := 0) (by rfl) (by rfl) dX4_clear_20 rfl ?_
  refine w_iconst (pc' := 22) (by decide) dX4_clear_21 rfl ?_
  refine v_putI (pc' := 25) (ji := 4) rfl fp_X4_11 kd_82 sf_X4_4 dX4_clear_22 rfl ?_
  refine w_aload_n (pc' := 26) (i := 0) (by rfl) (by rfl) dX4_clear_25 rfl ?_
  refine w_sipush (pc' := 29) (by decide) (by decide) dX4_clear_26 rfl ?_
  refine v_putI (pc' := 32) (ji := 5) rfl fp_X4_15 kd_82 sf_X4_5 dX4_clear_29 rfl ?_
  refine w_aload_n (pc' := 33) (i := 0) (by rfl) (by rfl) dX4_clear_32 rfl ?_
  refine w_sipush (pc' := 36) (by decide) (by decide) dX4_clear_33 rfl ?_
  refine v_putI (pc' := 39) (ji := 6) rfl fp_X4_18 kd_82 sf_X4_6 dX4_clear_36 rfl ?_
  refine w_aload_n (pc' := 40) (i := 0) (by rfl) (by rfl) dX4_clear_39 rfl ?_
  refine w_bipush (pc' := 42) (by decide) (by decide) dX4_clear_40 rfl ?_
  refine v_putI (pc' := 45) (ji := 7) rfl fp_X4_21 kd_82 sf_X4_7 dX4_clear_42 rfl ?_
  refine w_aload_n (pc' := 46) (i := 0) (by rfl) (by rfl) dX4_clear_45 rfl ?_
  refine w_iconst (pc' := 47) (by decide) dX4_clear_46 rfl ?_
  refine v_putI (pc' := 50) (ji := 8) rfl fp_X4_55 kd_82 sf_X4_8 dX4_clear_47 rfl ?_
  refine w_aload_n (pc' := 51) (i := 0) (by rfl) (by rfl) dX4_clear_50 rfl ?_
  refine w_iconst (pc' := 52) (by decide) dX4_clear_51 rfl ?_
  refine v_putI (pc' := 55) (ji := 15) rfl fp_X4_58 kd_82 sf_X4_15 dX4_clear_52 rfl ?_
  refine w_aload_n (pc' := 56) (i := 0) (by rfl) (by rfl) dX4_clear_55 rfl ?_
  refine w_getS (pc' := 59) (q := 84) fg_X4_28 kd_82 sf_X4_10 gr_82_10 dX4_clear_56 rfl ?_
  refine w_iconst (pc' := 60) (by decide) dX4_clear_59 rfl ?_
  refine v_callSE (pc' := 63) (st' := []) (d' := 0) (av := [gR 84, gI 0]) ms_mJ7_fill_53178 st_mJ7_fill_53178 lk_X4_61 rfl rfl (Nat.le_of_ble_eq_true rfl) (Nat.le_of_ble_eq_true rfl) dX4_clear_60 rfl rfl (k_fillI (x := 84) (n := 10) kd_84 (by decide) (gUp (gUp (gUp (gUp (gUp (gUp (gUp (gUp (gUp (gUp σ 82 1 f) 82 0 k) 82 2 0) 82 3 0) 82 4 1) 82 5 365) 82 6 365) 82 7 90) 82 8 0) 82 15 0) 0) ?_
  refine w_aload_n (pc' := 64) (i := 0) (by rfl) (by rfl) dX4_clear_63 rfl ?_
  refine w_getS (pc' := 67) (q := 85) fg_X4_31 kd_82 sf_X4_11 gr_82_11 dX4_clear_64 rfl ?_
  refine w_iconst (pc' := 68) (by decide) dX4_clear_67 rfl ?_
  refine v_callSE (pc' := 71) (st' := []) (d' := 0) (av := [gR 85, gI 0]) ms_mJ7_fill_53178 st_mJ7_fill_53178 lk_X4_61 rfl rfl (Nat.le_of_ble_eq_true rfl) (Nat.le_of_ble_eq_true rfl) dX4_clear_68 rfl rfl (k_fillI (x := 85) (n := 10) kd_85 (by decide) (gUr (gUp (gUp (gUp (gUp (gUp (gUp (gUp (gUp (gUp (gUp σ 82 1 f) 82 0 k) 82 2 0) 82 3 0) 82 4 1) 82 5 365) 82 6 365) 82 7 90) 82 8 0) 82 15 0) 84 (fillF (σ 84) 10 0)) 0) ?_
  refine w_return rfl dX4_clear_71 ?_
  first | (exfalso; omega) | exact ⟨rfl, rfl⟩
theorem kl89_put {σ : gH} (m s n : Int) (h : 0 ≤ σ 89 15 ∧ σ 89 15 < 120) : Mt mX4_put 0 [gR 89, gI m, gI s, gI n] σ (rE (gX 1) (gUp (gUp (gUp (gUp σ 93 (σ 89 15) m) 94 (σ 89 15) s) 95 (σ 89 15) n) 89 15 (σ 89 15 + 1))) := by
  refine Mt.walk (ls := [gR 89, gI m, gI s, gI n]) pn_X4 rfl (fun _ _ h => by cases h.1) (Nat.le_of_ble_eq_true rfl) rfl ?_
  refine w_aload_n (pc' := 1) (i := 0) (by rfl) (by rfl) dX4_put_0 rfl ?_
  refine v_getI (pc' := 4) (ji := 15) rfl fg_X4_58 kd_89 dX4_put_1 rfl ?_
  refine w_if_lt (pc' := 7) (t := 56) dX4_put_4 rfl rfl (fun c_4 => ?_) (fun c_4 => ?_)
  · skip
    refine w_return rfl dX4_put_56 ?_
    first | (exfalso; omega) | exact ⟨rfl, rfl⟩
  · skip
    refine w_aload_n (pc' := 8) (i := 0) (by rfl) (by rfl) dX4_put_7 rfl ?_
    refine v_getI (pc' := 11) (ji := 15) rfl fg_X4_58 kd_89 dX4_put_8 rfl ?_
    refine w_bipush (pc' := 13) (by decide) (by decide) dX4_put_11 rfl ?_
    refine w_icmp_ge (pc' := 16) (t := 56) dX4_put_13 rfl rfl (fun c_13 => ?_) (fun c_13 => ?_)
    · skip
      refine w_return rfl dX4_put_56 ?_
      first | (exfalso; omega) | exact ⟨rfl, rfl⟩
    · skip
      refine w_aload_n (pc' := 17) (i := 0) (by rfl) (by rfl) dX4_put_16 rfl ?_
      refine w_getS (pc' := 20) (q := 93) fg_X4_34 kd_89 sf_X4_12 gr_89_12 dX4_put_17 rfl ?_
      refine w_aload_n (pc' := 21) (i := 0) (by rfl) (by rfl) dX4_put_20 rfl ?_
      refine v_getI (pc' := 24) (ji := 15) rfl fg_X4_58 kd_89 dX4_put_21 rfl ?_
      refine w_iload_n (pc' := 25) (i := 1) (by rfl) (by rfl) dX4_put_24 rfl ?_
      refine w_iast (pc' := 26) kd_93 (by omega) (by omega) dX4_put_25 rfl ?_
      refine w_aload_n (pc' := 27) (i := 0) (by rfl) (by rfl) dX4_put_26 rfl ?_
      refine w_getS (pc' := 30) (q := 94) fg_X4_37 kd_89 sf_X4_13 gr_89_13 dX4_put_27 rfl ?_
      refine w_aload_n (pc' := 31) (i := 0) (by rfl) (by rfl) dX4_put_30 rfl ?_
      refine v_getI (pc' := 34) (ji := 15) rfl fg_X4_58 kd_89 dX4_put_31 rfl ?_
      show Wp _ _ _ _ _ _ [gI (σ 89 15), gR 94]
      refine w_iload_n (pc' := 35) (i := 2) (by rfl) (by rfl) dX4_put_34 rfl ?_
      refine w_iast (pc' := 36) kd_94 (by omega) (by omega) dX4_put_35 rfl ?_
      refine w_aload_n (pc' := 37) (i := 0) (by rfl) (by rfl) dX4_put_36 rfl ?_
      refine w_getS (pc' := 40) (q := 95) fg_X4_40 kd_89 sf_X4_14 gr_89_14 dX4_put_37 rfl ?_
      refine w_aload_n (pc' := 41) (i := 0) (by rfl) (by rfl) dX4_put_40 rfl ?_
      refine v_getI (pc' := 44) (ji := 15) rfl fg_X4_58 kd_89 dX4_put_41 rfl ?_
      show Wp _ _ _ _ _ _ [gI (σ 89 15), gR 95]
      refine w_iload_n (pc' := 45) (i := 3) (by rfl) (by rfl) dX4_put_44 rfl ?_
      refine w_iast (pc' := 46) kd_95 (by omega) (by omega) dX4_put_45 rfl ?_
      refine w_aload_n (pc' := 47) (i := 0) (by rfl) (by rfl) dX4_put_46 rfl ?_
      refine w_dup (pc' := 48) dX4_put_47 rfl ?_
      refine v_getI (pc' := 51) (ji := 15) rfl fg_X4_58 kd_89 dX4_put_48 rfl ?_
      show Wp _ _ _ _ _ _ [gI (σ 89 15), gR 89]
      refine w_iconst (pc' := 52) (by decide) dX4_put_51 rfl ?_
      refine v_iadd (pc' := 53) (by omega) dX4_put_52 rfl ?_
      refine v_putI (pc' := 56) (ji := 15) rfl fp_X4_58 kd_89 sf_X4_15 dX4_put_53 rfl ?_
      refine w_return rfl dX4_put_56 ?_
      first | (exfalso; omega) | exact ⟨rfl, rfl⟩
theorem kl89_begin {σ : gH} (r : Int) (h : 0 ≤ r ∧ r < 10) : Mt mX4_begin 0 [gR 89, gI r] σ (rE (gX 1) (gUp (gUp σ 91 r (σ 89 15)) 92 r (σ 89 15))) := by
  refine Mt.walk (ls := [gR 89, gI r]) pn_X4 rfl (fun _ _ h => by cases h.1) (Nat.le_of_ble_eq_true rfl) rfl ?_
  refine w_iload_n (pc' := 1) (i := 1) (by rfl) (by rfl) dX4_begin_0 rfl ?_
  refine w_if_lt (pc' := 4) (t := 30) dX4_begin_1 rfl rfl (fun c_1 => ?_) (fun c_1 => ?_)
  · skip
    refine w_return rfl dX4_begin_30 ?_
    first | (exfalso; omega) | exact ⟨rfl, rfl⟩
  · skip
    refine w_iload_n (pc' := 5) (i := 1) (by rfl) (by rfl) dX4_begin_4 rfl ?_
    refine w_bipush (pc' := 7) (by decide) (by decide) dX4_begin_5 rfl ?_
    refine w_icmp_ge (pc' := 10) (t := 30) dX4_begin_7 rfl rfl (fun c_7 => ?_) (fun c_7 => ?_)
    · skip
      refine w_return rfl dX4_begin_30 ?_
      first | (exfalso; omega) | exact ⟨rfl, rfl⟩
    · skip
      refine w_aload_n (pc' := 11) (i := 0) (by rfl) (by rfl) dX4_begin_10 rfl ?_
      refine w_getS (pc' := 14) (q := 91) fg_X4_28 kd_89 sf_X4_10 gr_89_10 dX4_begin_11 rfl ?_
      refine w_iload_n (pc' := 15) (i := 1) (by rfl) (by rfl) dX4_begin_14 rfl ?_
      refine w_aload_n (pc' := 16) (i := 0) (by rfl) (by rfl) dX4_begin_15 rfl ?_
      refine v_getI (pc' := 19) (ji := 15) rfl fg_X4_58 kd_89 dX4_begin_16 rfl ?_
      refine w_iast (pc' := 20) kd_91 (by omega) (by omega) dX4_begin_19 rfl ?_
      refine w_aload_n (pc' := 21) (i := 0) (by rfl) (by rfl) dX4_begin_20 rfl ?_
      refine w_getS (pc' := 24) (q := 92) fg_X4_31 kd_89 sf_X4_11 gr_89_11 dX4_begin_21 rfl ?_
      refine w_iload_n (pc' := 25) (i := 1) (by rfl) (by rfl) dX4_begin_24 rfl ?_
      refine w_aload_n (pc' := 26) (i := 0) (by rfl) (by rfl) dX4_begin_25 rfl ?_
      refine v_getI (pc' := 29) (ji := 15) rfl fg_X4_58 kd_89 dX4_begin_26 rfl ?_
      show Wp _ _ _ _ _ _ [gI (σ 89 15), gI r, gR 92]
      refine w_iast (pc' := 30) kd_92 (by omega) (by omega) dX4_begin_29 rfl ?_
      refine w_return rfl dX4_begin_30 ?_
      first | (exfalso; omega) | exact ⟨rfl, rfl⟩
theorem kl89_finish {σ : gH} (r : Int) (h : 0 ≤ r ∧ r < 10) : Mt mX4_finish 0 [gR 89, gI r] σ (rE (gX 1) (gUp σ 92 r (σ 89 15))) := by
  refine Mt.walk (ls := [gR 89, gI r]) pn_X4 rfl (fun _ _ h => by cases h.1) (Nat.le_of_ble_eq_true rfl) rfl ?_
  refine w_iload_n (pc' := 1) (i := 1) (by rfl) (by rfl) dX4_finish_0 rfl ?_
  refine w_if_lt (pc' := 4) (t := 20) dX4_finish_1 rfl rfl (fun c_1 => ?_) (fun c_1 => ?_)
  · skip
    refine w_return rfl dX4_finish_20 ?_
    first | (exfalso; omega) | exact ⟨rfl, rfl⟩
  · skip
    refine w_iload_n (pc' := 5) (i := 1) (by rfl) (by rfl) dX4_finish_4 rfl ?_
    refine w_bipush (pc' := 7) (by decide) (by decide) dX4_finish_5 rfl ?_
    refine w_icmp_ge (pc' := 10) (t := 20) dX4_finish_7 rfl rfl (fun c_7 => ?_) (fun c_7 => ?_)
    · skip
      refine w_return rfl dX4_finish_20 ?_
      first | (exfalso; omega) | exact ⟨rfl, rfl⟩
    · skip
      refine w_aload_n (pc' := 11) (i := 0) (by rfl) (by rfl) dX4_finish_10 rfl ?_
      refine w_getS (pc' := 14) (q := 92) fg_X4_31 kd_89 sf_X4_11 gr_89_11 dX4_finish_11 rfl ?_
      refine w_iload_n (pc' := 15) (i := 1) (by rfl) (by rfl) dX4_finish_14 rfl ?_
      refine w_aload_n (pc' := 16) (i := 0) (by rfl) (by rfl) dX4_finish_15 rfl ?_
      refine v_getI (pc' := 19) (ji := 15) rfl fg_X4_58 kd_89 dX4_finish_16 rfl ?_
      refine w_iast (pc' := 20) kd_92 (by omega) (by omega) dX4_finish_19 rfl ?_
      refine w_return rfl dX4_finish_20 ?_
      first | (exfalso; omega) | exact ⟨rfl, rfl⟩
theorem kl89_addTell {σ : gH} (x : Int) (h : 0 ≤ σ 89 3 ∧ σ 89 3 < 8) : Mt mX4_addTell 0 [gR 89, gI x] σ (rE (gI (σ 89 3)) (gUp (gUp σ 90 (σ 89 3) x) 89 3 (σ 89 3 + 1))) := by
  refine Mt.walk (ls := [gR 89, gI x]) pn_X4 rfl (fun _ _ h => by cases h.1) (Nat.le_of_ble_eq_true rfl) rfl ?_
  refine w_aload_n (pc' := 1) (i := 0) (by rfl) (by rfl) dX4_addTell_0 rfl ?_
  refine v_getI (pc' := 4) (ji := 3) rfl fg_X4_52 kd_89 dX4_addTell_1 rfl ?_
  refine w_if_lt (pc' := 7) (t := 16) dX4_addTell_4 rfl rfl (fun c_4 => ?_) (fun c_4 => ?_)
  · skip
    refine w_iconst (pc' := 17) (by decide) dX4_addTell_16 rfl ?_
    refine v_ireturn rfl dX4_addTell_17 ?_
    first | (exfalso; omega) | exact ⟨congrArg gI (by omega), rfl⟩
  · skip
    refine w_aload_n (pc' := 8) (i := 0) (by rfl) (by rfl) dX4_addTell_7 rfl ?_
    refine v_getI (pc' := 11) (ji := 3) rfl fg_X4_52 kd_89 dX4_addTell_8 rfl ?_
    refine w_bipush (pc' := 13) (by decide) (by decide) dX4_addTell_11 rfl ?_
    refine w_icmp_lt (pc' := 16) (t := 18) dX4_addTell_13 rfl rfl (fun c_13 => ?_) (fun c_13 => ?_)
    · skip
      refine w_aload_n (pc' := 19) (i := 0) (by rfl) (by rfl) dX4_addTell_18 rfl ?_
      refine w_getS (pc' := 22) (q := 90) fg_X4_24 kd_89 sf_X4_9 gr_89_9 dX4_addTell_19 rfl ?_
      refine w_aload_n (pc' := 23) (i := 0) (by rfl) (by rfl) dX4_addTell_22 rfl ?_
      refine v_getI (pc' := 26) (ji := 3) rfl fg_X4_52 kd_89 dX4_addTell_23 rfl ?_
      refine w_iload_n (pc' := 27) (i := 1) (by rfl) (by rfl) dX4_addTell_26 rfl ?_
      refine w_iast (pc' := 28) kd_90 (by omega) (by omega) dX4_addTell_27 rfl ?_
      refine w_aload_n (pc' := 29) (i := 0) (by rfl) (by rfl) dX4_addTell_28 rfl ?_
      refine w_dup (pc' := 30) dX4_addTell_29 rfl ?_
      refine v_getI (pc' := 33) (ji := 3) rfl fg_X4_52 kd_89 dX4_addTell_30 rfl ?_
      show Wp _ _ _ _ _ _ [gI (σ 89 3), gR 89]
      refine w_iconst (pc' := 34) (by decide) dX4_addTell_33 rfl ?_
      refine v_iadd (pc' := 35) (by omega) dX4_addTell_34 rfl ?_
      refine v_putI (pc' := 38) (ji := 3) rfl fp_X4_52 kd_89 sf_X4_3 dX4_addTell_35 rfl ?_
      refine w_aload_n (pc' := 39) (i := 0) (by rfl) (by rfl) dX4_addTell_38 rfl ?_
      refine v_getI (pc' := 42) (ji := 3) rfl fg_X4_52 kd_89 dX4_addTell_39 rfl ?_
      show Wp _ _ _ _ _ _ [gI ((σ 89 3) + 1)]
      refine w_iconst (pc' := 43) (by decide) dX4_addTell_42 rfl ?_
      refine v_isub (pc' := 44) (by omega) dX4_addTell_43 rfl ?_
      refine v_ireturn rfl dX4_addTell_44 ?_
      first | (exfalso; omega) | exact ⟨congrArg gI (by omega), rfl⟩
    · skip
      refine w_iconst (pc' := 17) (by decide) dX4_addTell_16 rfl ?_
      refine v_ireturn rfl dX4_addTell_17 ?_
      first | (exfalso; omega) | exact ⟨congrArg gI (by omega), rfl⟩
theorem kl89_countRule {σ : gH} (h : 0 ≤ σ 89 2 ∧ σ 89 2 < 600) : Mt mX4_countRule 0 [gR 89] σ (rE (gX 1) (gUp σ 89 2 (σ 89 2 + 1))) := by
  refine Mt.walk (ls := [gR 89]) pn_X4 rfl (fun _ _ h => by cases h.1) (Nat.le_of_ble_eq_true rfl) rfl ?_
  refine w_aload_n (pc' := 1) (i := 0) (by rfl) (by rfl) dX4_countRule_0 rfl ?_
  refine w_dup (pc' := 2) dX4_countRule_1 rfl ?_
  refine v_getI (pc' := 5) (ji := 2) rfl fg_X4_49 kd_89 dX4_countRule_2 rfl ?_
  refine w_iconst (pc' := 6) (by decide) dX4_countRule_5 rfl ?_
  refine v_iadd (pc' := 7) (by omega) dX4_countRule_6 rfl ?_
  refine v_putI (pc' := 10) (ji := 2) rfl fp_X4_49 kd_89 sf_X4_2 dX4_countRule_7 rfl ?_
  refine w_return rfl dX4_countRule_10 ?_
  first | (exfalso; omega) | exact ⟨rfl, rfl⟩
theorem kl89_totalTells {σ : gH}  : Mt mX4_totalTells 0 [gR 89] σ (rE (gI (σ 89 3)) σ) := by
  refine Mt.walk (ls := [gR 89]) pn_X4 rfl (fun _ _ h => by cases h.1) (Nat.le_of_ble_eq_true rfl) rfl ?_
  refine w_aload_n (pc' := 1) (i := 0) (by rfl) (by rfl) dX4_totalTells_0 rfl ?_
  refine v_getI (pc' := 4) (ji := 3) rfl fg_X4_52 kd_89 dX4_totalTells_1 rfl ?_
  refine v_ireturn rfl dX4_totalTells_4 ?_
  first | (exfalso; omega) | exact ⟨rfl, rfl⟩

theorem kl89_set {σ : gH} (x n : Int) : Mt mX4_set 0 [gR 89, gI x, gI n] σ (rE (gX 1) (gUp σ 89 (stJ x) n)) := by
  refine Mt.walk (ls := [gR 89, gI x, gI n]) pn_X4 rfl (fun _ _ h => by cases h.1) (Nat.le_of_ble_eq_true rfl) rfl ?_
  refine w_iload_n (pc' := 1) (i := 1) (by rfl) (by rfl) dX4_set_0 rfl ?_
  by_cases c_1_8 : x = 8
  · refine w_lookup (pc' := 44) (off := 43) dX4_set_1 (by decide) (by rw [c_1_8]; rfl) rfl ?_
    refine w_aload_n (pc' := 45) (i := 0) (by rfl) (by rfl) dX4_set_44 rfl ?_
    refine w_iload_n (pc' := 46) (i := 2) (by rfl) (by rfl) dX4_set_45 rfl ?_
    refine v_putI (pc' := 49) (ji := 4) rfl fp_X4_11 kd_89 sf_X4_4 dX4_set_46 rfl ?_
    refine w_goto (pc' := 81) dX4_set_49 rfl ?_
    refine w_return rfl dX4_set_81 ?_
    exact ⟨rfl, by rw [show stJ x = 4 by unfold stJ; (repeat' split) <;> omega]⟩
  by_cases c_1_22 : x = 22
  · refine w_lookup (pc' := 52) (off := 51) dX4_set_1 (by decide) (by rw [c_1_22]; rfl) rfl ?_
    refine w_aload_n (pc' := 53) (i := 0) (by rfl) (by rfl) dX4_set_52 rfl ?_
    refine w_iload_n (pc' := 54) (i := 2) (by rfl) (by rfl) dX4_set_53 rfl ?_
    refine v_putI (pc' := 57) (ji := 5) rfl fp_X4_15 kd_89 sf_X4_5 dX4_set_54 rfl ?_
    refine w_goto (pc' := 81) dX4_set_57 rfl ?_
    refine w_return rfl dX4_set_81 ?_
    exact ⟨rfl, by rw [show stJ x = 5 by unfold stJ; (repeat' split) <;> omega]⟩
  by_cases c_1_23 : x = 23
  · refine w_lookup (pc' := 60) (off := 59) dX4_set_1 (by decide) (by rw [c_1_23]; rfl) rfl ?_
    refine w_aload_n (pc' := 61) (i := 0) (by rfl) (by rfl) dX4_set_60 rfl ?_
    refine w_iload_n (pc' := 62) (i := 2) (by rfl) (by rfl) dX4_set_61 rfl ?_
    refine v_putI (pc' := 65) (ji := 6) rfl fp_X4_18 kd_89 sf_X4_6 dX4_set_62 rfl ?_
    refine w_goto (pc' := 81) dX4_set_65 rfl ?_
    refine w_return rfl dX4_set_81 ?_
    exact ⟨rfl, by rw [show stJ x = 6 by unfold stJ; (repeat' split) <;> omega]⟩
  by_cases c_1_24 : x = 24
  · refine w_lookup (pc' := 68) (off := 67) dX4_set_1 (by decide) (by rw [c_1_24]; rfl) rfl ?_
    refine w_aload_n (pc' := 69) (i := 0) (by rfl) (by rfl) dX4_set_68 rfl ?_
    refine w_iload_n (pc' := 70) (i := 2) (by rfl) (by rfl) dX4_set_69 rfl ?_
    refine v_putI (pc' := 73) (ji := 7) rfl fp_X4_21 kd_89 sf_X4_7 dX4_set_70 rfl ?_
    refine w_goto (pc' := 81) dX4_set_73 rfl ?_
    refine w_return rfl dX4_set_81 ?_
    exact ⟨rfl, by rw [show stJ x = 7 by unfold stJ; (repeat' split) <;> omega]⟩
  refine w_lookup (pc' := 76) (off := 75) dX4_set_1 (by decide) (by simp [Op.lookupswitch.offset, Ne.symm c_1_8, c_1_8, Ne.symm c_1_22, c_1_22, Ne.symm c_1_23, c_1_23, Ne.symm c_1_24, c_1_24]) rfl ?_
  refine w_aload_n (pc' := 77) (i := 0) (by rfl) (by rfl) dX4_set_76 rfl ?_
  refine w_iload_n (pc' := 78) (i := 2) (by rfl) (by rfl) dX4_set_77 rfl ?_
  refine v_putI (pc' := 81) (ji := 8) rfl fp_X4_55 kd_89 sf_X4_8 dX4_set_78 rfl ?_
  refine w_return rfl dX4_set_81 ?_
  exact ⟨rfl, by rw [show stJ x = 8 by unfold stJ; (repeat' split) <;> omega]⟩
theorem kl89_clear {σ : gH} (f k : Int) : Mt mX4_clear 1 [gR 89, gI f, gI k] σ (rE (gX 1) (gUr (gUr (gUp (gUp (gUp (gUp (gUp (gUp (gUp (gUp (gUp (gUp σ 89 1 f) 89 0 k) 89 2 0) 89 3 0) 89 4 1) 89 5 365) 89 6 365) 89 7 90) 89 8 0) 89 15 0) 91 (fillF (σ 91) 10 0)) 92 (fillF (σ 92) 10 0))) := by
  refine Mt.walk (ls := [gR 89, gI f, gI k]) pn_X4 rfl (fun _ _ h => by cases h.1) (Nat.le_of_ble_eq_true rfl) rfl ?_
  refine w_aload_n (pc' := 1) (i := 0) (by rfl) (by rfl) dX4_clear_0 rfl ?_
  refine w_iload_n (pc' := 2) (i := 1) (by rfl) (by rfl) dX4_clear_1 rfl ?_
  refine v_putI (pc' := 5) (ji := 1) rfl fp_X4_43 kd_89 sf_X4_1 dX4_clear_2 rfl ?_
  refine w_aload_n (pc' := 6) (i := 0) (by rfl) (by rfl) dX4_clear_5 rfl ?_
  refine w_iload_n (pc' := 7) (i := 2) (by rfl) (by rfl) dX4_clear_6 rfl ?_
  refine v_putI (pc' := 10) (ji := 0) rfl fp_X4_46 kd_89 sf_X4_0 dX4_clear_7 rfl ?_
  refine w_aload_n (pc' := 11) (i := 0) (by rfl) (by rfl) dX4_clear_10 rfl ?_
  refine w_iconst (pc' := 12) (by decide) dX4_clear_11 rfl ?_
  refine v_putI (pc' := 15) (ji := 2) rfl fp_X4_49 kd_89 sf_X4_2 dX4_clear_12 rfl ?_
  refine w_aload_n (pc' := 16) (i := 0) (by rfl) (by rfl) dX4_clear_15 rfl ?_
  refine w_iconst (pc' := 17) (by decide) dX4_clear_16 rfl ?_
  refine v_putI (pc' := 20) (ji := 3) rfl fp_X4_52 kd_89 sf_X4_3 dX4_clear_17 rfl ?_
  refine w_aload_n (pc' := 21) (i := 0) (by rfl) (by rfl) dX4_clear_20 rfl ?_
  refine w_iconst (pc' := 22) (by decide) dX4_clear_21 rfl ?_
  refine v_putI (pc' := 25) (ji := 4) rfl fp_X4_11 kd_89 sf_X4_4 dX4_clear_22 rfl ?_
  refine w_aload_n (pc' := 26) (i := 0) (by rfl) (by rfl) dX4_clear_25 rfl ?_
  refine w_sipush (pc' := 29) (by decide) (by decide) dX4_clear_26 rfl ?_
  refine v_putI (pc' := 32) (ji := 5) rfl fp_X4_15 kd_89 sf_X4_5 dX4_clear_29 rfl ?_
  refine w_aload_n (pc' := 33) (i := 0) (by rfl) (by rfl) dX4_clear_32 rfl ?_
  refine w_sipush (pc' := 36) (by decide) (by decide) dX4_clear_33 rfl ?_
  refine v_putI (pc' := 39) (ji := 6) rfl fp_X4_18 kd_89 sf_X4_6 dX4_clear_36 rfl ?_
  refine w_aload_n (pc' := 40) (i := 0) (by rfl) (by rfl) dX4_clear_39 rfl ?_
  refine w_bipush (pc' := 42) (by decide) (by decide) dX4_clear_40 rfl ?_
  refine v_putI (pc' := 45) (ji := 7) rfl fp_X4_21 kd_89 sf_X4_7 dX4_clear_42 rfl ?_
  refine w_aload_n (pc' := 46) (i := 0) (by rfl) (by rfl) dX4_clear_45 rfl ?_
  refine w_iconst (pc' := 47) (by decide) dX4_clear_46 rfl ?_
  refine v_putI (pc' := 50) (ji := 8) rfl fp_X4_55 kd_89 sf_X4_8 dX4_clear_47 rfl ?_
  refine w_aload_n (pc' := 51) (i := 0) (by rfl) (by rfl) dX4_clear_50 rfl ?_
  refine w_iconst (pc' := 52) (by decide) dX4_clear_51 rfl ?_
  refine v_putI (pc' := 55) (ji := 15) rfl fp_X4_58 kd_89 sf_X4_15 dX4_clear_52 rfl ?_
  refine w_aload_n (pc' := 56) (i := 0) (by rfl) (by rfl) dX4_clear_55 rfl ?_
  refine w_getS (pc' := 59) (q := 91) fg_X4_28 kd_89 sf_X4_10 gr_89_10 dX4_clear_56 rfl ?_
  refine w_iconst (pc' := 60) (by decide) dX4_clear_59 rfl ?_
  refine v_callSE (pc' := 63) (st' := []) (d' := 0) (av := [gR 91, gI 0]) ms_mJ7_fill_53178 st_mJ7_fill_53178 lk_X4_61 rfl rfl (Nat.le_of_ble_eq_true rfl) (Nat.le_of_ble_eq_true rfl) dX4_clear_60 rfl rfl (k_fillI (x := 91) (n := 10) kd_91 (by decide) (gUp (gUp (gUp (gUp (gUp (gUp (gUp (gUp (gUp (gUp σ 89 1 f) 89 0 k) 89 2 0) 89 3 0) 89 4 1) 89 5 365) 89 6 365) 89 7 90) 89 8 0) 89 15 0) 0) ?_
  refine w_aload_n (pc' := 64) (i := 0) (by rfl) (by rfl) dX4_clear_63 rfl ?_
  refine w_getS (pc' := 67) (q := 92) fg_X4_31 kd_89 sf_X4_11 gr_89_11 dX4_clear_64 rfl ?_
  refine w_iconst (pc' := 68) (by decide) dX4_clear_67 rfl ?_
  refine v_callSE (pc' := 71) (st' := []) (d' := 0) (av := [gR 92, gI 0]) ms_mJ7_fill_53178 st_mJ7_fill_53178 lk_X4_61 rfl rfl (Nat.le_of_ble_eq_true rfl) (Nat.le_of_ble_eq_true rfl) dX4_clear_68 rfl rfl (k_fillI (x := 92) (n := 10) kd_92 (by decide) (gUr (gUp (gUp (gUp (gUp (gUp (gUp (gUp (gUp (gUp (gUp σ 89 1 f) 89 0 k) 89 2 0) 89 3 0) 89 4 1) 89 5 365) 89 6 365) 89 7 90) 89 8 0) 89 15 0) 91 (fillF (σ 91) 10 0)) 0) ?_
  refine w_return rfl dX4_clear_71 ?_
  first | (exfalso; omega) | exact ⟨rfl, rfl⟩
theorem kl96_put {σ : gH} (m s n : Int) (h : 0 ≤ σ 96 15 ∧ σ 96 15 < 120) : Mt mX4_put 0 [gR 96, gI m, gI s, gI n] σ (rE (gX 1) (gUp (gUp (gUp (gUp σ 100 (σ 96 15) m) 101 (σ 96 15) s) 102 (σ 96 15) n) 96 15 (σ 96 15 + 1))) := by
  refine Mt.walk (ls := [gR 96, gI m, gI s, gI n]) pn_X4 rfl (fun _ _ h => by cases h.1) (Nat.le_of_ble_eq_true rfl) rfl ?_
  refine w_aload_n (pc' := 1) (i := 0) (by rfl) (by rfl) dX4_put_0 rfl ?_
  refine v_getI (pc' := 4) (ji := 15) rfl fg_X4_58 kd_96 dX4_put_1 rfl ?_
  refine w_if_lt (pc' := 7) (t := 56) dX4_put_4 rfl rfl (fun c_4 => ?_) (fun c_4 => ?_)
  · skip
    refine w_return rfl dX4_put_56 ?_
    first | (exfalso; omega) | exact ⟨rfl, rfl⟩
  · skip
    refine w_aload_n (pc' := 8) (i := 0) (by rfl) (by rfl) dX4_put_7 rfl ?_
    refine v_getI (pc' := 11) (ji := 15) rfl fg_X4_58 kd_96 dX4_put_8 rfl ?_
    refine w_bipush (pc' := 13) (by decide) (by decide) dX4_put_11 rfl ?_
    refine w_icmp_ge (pc' := 16) (t := 56) dX4_put_13 rfl rfl (fun c_13 => ?_) (fun c_13 => ?_)
    · skip
      refine w_return rfl dX4_put_56 ?_
      first | (exfalso; omega) | exact ⟨rfl, rfl⟩
    · skip
      refine w_aload_n (pc' := 17) (i := 0) (by rfl) (by rfl) dX4_put_16 rfl ?_
      refine w_getS (pc' := 20) (q := 100) fg_X4_34 kd_96 sf_X4_12 gr_96_12 dX4_put_17 rfl ?_
      refine w_aload_n (pc' := 21) (i := 0) (by rfl) (by rfl) dX4_put_20 rfl ?_
      refine v_getI (pc' := 24) (ji := 15) rfl fg_X4_58 kd_96 dX4_put_21 rfl ?_
      refine w_iload_n (pc' := 25) (i := 1) (by rfl) (by rfl) dX4_put_24 rfl ?_
      refine w_iast (pc' := 26) kd_100 (by omega) (by omega) dX4_put_25 rfl ?_
      refine w_aload_n (pc' := 27) (i := 0) (by rfl) (by rfl) dX4_put_26 rfl ?_
      refine w_getS (pc' := 30) (q := 101) fg_X4_37 kd_96 sf_X4_13 gr_96_13 dX4_put_27 rfl ?_
      refine w_aload_n (pc' := 31) (i := 0) (by rfl) (by rfl) dX4_put_30 rfl ?_
      refine v_getI (pc' := 34) (ji := 15) rfl fg_X4_58 kd_96 dX4_put_31 rfl ?_
      show Wp _ _ _ _ _ _ [gI (σ 96 15), gR 101]
      refine w_iload_n (pc' := 35) (i := 2) (by rfl) (by rfl) dX4_put_34 rfl ?_
      refine w_iast (pc' := 36) kd_101 (by omega) (by omega) dX4_put_35 rfl ?_
      refine w_aload_n (pc' := 37) (i := 0) (by rfl) (by rfl) dX4_put_36 rfl ?_
      refine w_getS (pc' := 40) (q := 102) fg_X4_40 kd_96 sf_X4_14 gr_96_14 dX4_put_37 rfl ?_
      refine w_aload_n (pc' := 41) (i := 0) (by rfl) (by rfl) dX4_put_40 rfl ?_
      refine v_getI (pc' := 44) (ji := 15) rfl fg_X4_58 kd_96 dX4_put_41 rfl ?_
      show Wp _ _ _ _ _ _ [gI (σ 96 15), gR 102]
      refine w_iload_n (pc' := 45) (i := 3) (by rfl) (by rfl) dX4_put_44 rfl ?_
      refine w_iast (pc' := 46) kd_102 (by omega) (by omega) dX4_put_45 rfl ?_
      refine w_aload_n (pc' := 47) (i := 0) (by rfl) (by rfl) dX4_put_46 rfl ?_
      refine w_dup (pc' := 48) dX4_put_47 rfl ?_
      refine v_getI (pc' := 51) (ji := 15) rfl fg_X4_58 kd_96 dX4_put_48 rfl ?_
      show Wp _ _ _ _ _ _ [gI (σ 96 15), gR 96]
      refine w_iconst (pc' := 52) (by decide) dX4_put_51 rfl ?_
      refine v_iadd (pc' := 53) (by omega) dX4_put_52 rfl ?_
      refine v_putI (pc' := 56) (ji := 15) rfl fp_X4_58 kd_96 sf_X4_15 dX4_put_53 rfl ?_
      refine w_return rfl dX4_put_56 ?_
      first | (exfalso; omega) | exact ⟨rfl, rfl⟩
theorem kl96_begin {σ : gH} (r : Int) (h : 0 ≤ r ∧ r < 10) : Mt mX4_begin 0 [gR 96, gI r] σ (rE (gX 1) (gUp (gUp σ 98 r (σ 96 15)) 99 r (σ 96 15))) := by
  refine Mt.walk (ls := [gR 96, gI r]) pn_X4 rfl (fun _ _ h => by cases h.1) (Nat.le_of_ble_eq_true rfl) rfl ?_
  refine w_iload_n (pc' := 1) (i := 1) (by rfl) (by rfl) dX4_begin_0 rfl ?_
  refine w_if_lt (pc' := 4) (t := 30) dX4_begin_1 rfl rfl (fun c_1 => ?_) (fun c_1 => ?_)
  · skip
    refine w_return rfl dX4_begin_30 ?_
    first | (exfalso; omega) | exact ⟨rfl, rfl⟩
  · skip
    refine w_iload_n (pc' := 5) (i := 1) (by rfl) (by rfl) dX4_begin_4 rfl ?_
    refine w_bipush (pc' := 7) (by decide) (by decide) dX4_begin_5 rfl ?_
    refine w_icmp_ge (pc' := 10) (t := 30) dX4_begin_7 rfl rfl (fun c_7 => ?_) (fun c_7 => ?_)
    · skip
      refine w_return rfl dX4_begin_30 ?_
      first | (exfalso; omega) | exact ⟨rfl, rfl⟩
    · skip
      refine w_aload_n (pc' := 11) (i := 0) (by rfl) (by rfl) dX4_begin_10 rfl ?_
      refine w_getS (pc' := 14) (q := 98) fg_X4_28 kd_96 sf_X4_10 gr_96_10 dX4_begin_11 rfl ?_
      refine w_iload_n (pc' := 15) (i := 1) (by rfl) (by rfl) dX4_begin_14 rfl ?_
      refine w_aload_n (pc' := 16) (i := 0) (by rfl) (by rfl) dX4_begin_15 rfl ?_
      refine v_getI (pc' := 19) (ji := 15) rfl fg_X4_58 kd_96 dX4_begin_16 rfl ?_
      refine w_iast (pc' := 20) kd_98 (by omega) (by omega) dX4_begin_19 rfl ?_
      refine w_aload_n (pc' := 21) (i := 0) (by rfl) (by rfl) dX4_begin_20 rfl ?_
      refine w_getS (pc' := 24) (q := 99) fg_X4_31 kd_96 sf_X4_11 gr_96_11 dX4_begin_21 rfl ?_
      refine w_iload_n (pc' := 25) (i := 1) (by rfl) (by rfl) dX4_begin_24 rfl ?_
      refine w_aload_n (pc' := 26) (i := 0) (by rfl) (by rfl) dX4_begin_25 rfl ?_
      refine v_getI (pc' := 29) (ji := 15) rfl fg_X4_58 kd_96 dX4_begin_26 rfl ?_
      show Wp _ _ _ _ _ _ [gI (σ 96 15), gI r, gR 99]
      refine w_iast (pc' := 30) kd_99 (by omega) (by omega) dX4_begin_29 rfl ?_
      refine w_return rfl dX4_begin_30 ?_
      first | (exfalso; omega) | exact ⟨rfl, rfl⟩
theorem kl96_finish {σ : gH} (r : Int) (h : 0 ≤ r ∧ r < 10) : Mt mX4_finish 0 [gR 96, gI r] σ (rE (gX 1) (gUp σ 99 r (σ 96 15))) := by
  refine Mt.walk (ls := [gR 96, gI r]) pn_X4 rfl (fun _ _ h => by cases h.1) (Nat.le_of_ble_eq_true rfl) rfl ?_
  refine w_iload_n (pc' := 1) (i := 1) (by rfl) (by rfl) dX4_finish_0 rfl ?_
  refine w_if_lt (pc' := 4) (t := 20) dX4_finish_1 rfl rfl (fun c_1 => ?_) (fun c_1 => ?_)
  · skip
    refine w_return rfl dX4_finish_20 ?_
    first | (exfalso; omega) | exact ⟨rfl, rfl⟩
  · skip
    refine w_iload_n (pc' := 5) (i := 1) (by rfl) (by rfl) dX4_finish_4 rfl ?_
    refine w_bipush (pc' := 7) (by decide) (by decide) dX4_finish_5 rfl ?_
    refine w_icmp_ge (pc' := 10) (t := 20) dX4_finish_7 rfl rfl (fun c_7 => ?_) (fun c_7 => ?_)
    · skip
      refine w_return rfl dX4_finish_20 ?_
      first | (exfalso; omega) | exact ⟨rfl, rfl⟩
    · skip
      refine w_aload_n (pc' := 11) (i := 0) (by rfl) (by rfl) dX4_finish_10 rfl ?_
      refine w_getS (pc' := 14) (q := 99) fg_X4_31 kd_96 sf_X4_11 gr_96_11 dX4_finish_11 rfl ?_
      refine w_iload_n (pc' := 15) (i := 1) (by rfl) (by rfl) dX4_finish_14 rfl ?_
      refine w_aload_n (pc' := 16) (i := 0) (by rfl) (by rfl) dX4_finish_15 rfl ?_
      refine v_getI (pc' := 19) (ji := 15) rfl fg_X4_58 kd_96 dX4_finish_16 rfl ?_
      refine w_iast (pc' := 20) kd_99 (by omega) (by omega) dX4_finish_19 rfl ?_
      refine w_return rfl dX4_finish_20 ?_
      first | (exfalso; omega) | exact ⟨rfl, rfl⟩
theorem kl96_addTell {σ : gH} (x : Int) (h : 0 ≤ σ 96 3 ∧ σ 96 3 < 8) : Mt mX4_addTell 0 [gR 96, gI x] σ (rE (gI (σ 96 3)) (gUp (gUp σ 97 (σ 96 3) x) 96 3 (σ 96 3 + 1))) := by
  refine Mt.walk (ls := [gR 96, gI x]) pn_X4 rfl (fun _ _ h => by cases h.1) (Nat.le_of_ble_eq_true rfl) rfl ?_
  refine w_aload_n (pc' := 1) (i := 0) (by rfl) (by rfl) dX4_addTell_0 rfl ?_
  refine v_getI (pc' := 4) (ji := 3) rfl fg_X4_52 kd_96 dX4_addTell_1 rfl ?_
  refine w_if_lt (pc' := 7) (t := 16) dX4_addTell_4 rfl rfl (fun c_4 => ?_) (fun c_4 => ?_)
  · skip
    refine w_iconst (pc' := 17) (by decide) dX4_addTell_16 rfl ?_
    refine v_ireturn rfl dX4_addTell_17 ?_
    first | (exfalso; omega) | exact ⟨congrArg gI (by omega), rfl⟩
  · skip
    refine w_aload_n (pc' := 8) (i := 0) (by rfl) (by rfl) dX4_addTell_7 rfl ?_
    refine v_getI (pc' := 11) (ji := 3) rfl fg_X4_52 kd_96 dX4_addTell_8 rfl ?_
    refine w_bipush (pc' := 13) (by decide) (by decide) dX4_addTell_11 rfl ?_
    refine w_icmp_lt (pc' := 16) (t := 18) dX4_addTell_13 rfl rfl (fun c_13 => ?_) (fun c_13 => ?_)
    · skip
      refine w_aload_n (pc' := 19) (i := 0) (by rfl) (by rfl) dX4_addTell_18 rfl ?_
      refine w_getS (pc' := 22) (q := 97) fg_X4_24 kd_96 sf_X4_9 gr_96_9 dX4_addTell_19 rfl ?_
      refine w_aload_n (pc' := 23) (i := 0) (by rfl) (by rfl) dX4_addTell_22 rfl ?_
      refine v_getI (pc' := 26) (ji := 3) rfl fg_X4_52 kd_96 dX4_addTell_23 rfl ?_
      refine w_iload_n (pc' := 27) (i := 1) (by rfl) (by rfl) dX4_addTell_26 rfl ?_
      refine w_iast (pc' := 28) kd_97 (by omega) (by omega) dX4_addTell_27 rfl ?_
      refine w_aload_n (pc' := 29) (i := 0) (by rfl) (by rfl) dX4_addTell_28 rfl ?_
      refine w_dup (pc' := 30) dX4_addTell_29 rfl ?_
      refine v_getI (pc' := 33) (ji := 3) rfl fg_X4_52 kd_96 dX4_addTell_30 rfl ?_
      show Wp _ _ _ _ _ _ [gI (σ 96 3), gR 96]
      refine w_iconst (pc' := 34) (by decide) dX4_addTell_33 rfl ?_
      refine v_iadd (pc' := 35) (by omega) dX4_addTell_34 rfl ?_
      refine v_putI (pc' := 38) (ji := 3) rfl fp_X4_52 kd_96 sf_X4_3 dX4_addTell_35 rfl ?_
      refine w_aload_n (pc' := 39) (i := 0) (by rfl) (by rfl) dX4_addTell_38 rfl ?_
      refine v_getI (pc' := 42) (ji := 3) rfl fg_X4_52 kd_96 dX4_addTell_39 rfl ?_
      show Wp _ _ _ _ _ _ [gI ((σ 96 3) + 1)]
      refine w_iconst (pc' := 43) (by decide) dX4_addTell_42 rfl ?_
      refine v_isub (pc' := 44) (by omega) dX4_addTell_43 rfl ?_
      refine v_ireturn rfl dX4_addTell_44 ?_
      first | (exfalso; omega) | exact ⟨congrArg gI (by omega), rfl⟩
    · skip
      refine w_iconst (pc' := 17) (by decide) dX4_addTell_16 rfl ?_
      refine v_ireturn rfl dX4_addTell_17 ?_
      first | (exfalso; omega) | exact ⟨congrArg gI (by omega), rfl⟩
theorem kl96_countRule {σ : gH} (h : 0 ≤ σ 96 2 ∧ σ 96 2 < 600) : Mt mX4_countRule 0 [gR 96] σ (rE (gX 1) (gUp σ 96 2 (σ 96 2 + 1))) := by
  refine Mt.walk (ls := [gR 96]) pn_X4 rfl (fun _ _ h => by cases h.1) (Nat.le_of_ble_eq_true rfl) rfl ?_
  refine w_aload_n (pc' := 1) (i := 0) (by rfl) (by rfl) dX4_countRule_0 rfl ?_
  refine w_dup (pc' := 2) dX4_countRule_1 rfl ?_
  refine v_getI (pc' := 5) (ji := 2) rfl fg_X4_49 kd_96 dX4_countRule_2 rfl ?_
  refine w_iconst (pc' := 6) (by decide) dX4_countRule_5 rfl ?_
  refine v_iadd (pc' := 7) (by omega) dX4_countRule_6 rfl ?_
  refine v_putI (pc' := 10) (ji := 2) rfl fp_X4_49 kd_96 sf_X4_2 dX4_countRule_7 rfl ?_
  refine w_return rfl dX4_countRule_10 ?_
  first | (exfalso; omega) | exact ⟨rfl, rfl⟩
theorem kl96_totalTells {σ : gH}  : Mt mX4_totalTells 0 [gR 96] σ (rE (gI (σ 96 3)) σ) := by
  refine Mt.walk (ls := [gR 96]) pn_X4 rfl (fun _ _ h => by cases h.1) (Nat.le_of_ble_eq_true rfl) rfl ?_
  refine w_aload_n (pc' := 1) (i := 0) (by rfl) (by rfl) dX4_totalTells_0 rfl ?_
  refine v_getI (pc' := 4) (ji := 3) rfl fg_X4_52 kd_96 dX4_totalTells_1 rfl ?_
  refine v_ireturn rfl dX4_totalTells_4 ?_
  first | (exfalso; omega) | exact ⟨rfl, rfl⟩

theorem kl96_set {σ : gH} (x n : Int) : Mt mX4_set 0 [gR 96, gI x, gI n] σ (rE (gX 1) (gUp σ 96 (stJ x) n)) := by
  refine Mt.walk (ls := [gR 96, gI x, gI n]) pn_X4 rfl (fun _ _ h => by cases h.1) (Nat.le_of_ble_eq_true rfl) rfl ?_
  refine w_iload_n (pc' := 1) (i := 1) (by rfl) (by rfl) dX4_set_0 rfl ?_
  by_cases c_1_8 : x = 8
  · refine w_lookup (pc' := 44) (off := 43) dX4_set_1 (by decide) (by rw [c_1_8]; rfl) rfl ?_
    refine w_aload_n (pc' := 45) (i := 0) (by rfl) (by rfl) dX4_set_44 rfl ?_
    refine w_iload_n (pc' := 46) (i := 2) (by rfl) (by rfl) dX4_set_45 rfl ?_
    refine v_putI (pc' := 49) (ji := 4) rfl fp_X4_11 kd_96 sf_X4_4 dX4_set_46 rfl ?_
    refine w_goto (pc' := 81) dX4_set_49 rfl ?_
    refine w_return rfl dX4_set_81 ?_
    exact ⟨rfl, by rw [show stJ x = 4 by unfold stJ; (repeat' split) <;> omega]⟩
  by_cases c_1_22 : x = 22
  · refine w_lookup (pc' := 52) (off := 51) dX4_set_1 (by decide) (by rw [c_1_22]; rfl) rfl ?_
    refine w_aload_n (pc' := 53) (i := 0) (by rfl) (by rfl) dX4_set_52 rfl ?_
    refine w_iload_n (pc' := 54) (i := 2) (by rfl) (by rfl) dX4_set_53 rfl ?_
    refine v_putI (pc' := 57) (ji := 5) rfl fp_X4_15 kd_96 sf_X4_5 dX4_set_54 rfl ?_
    refine w_goto (pc' := 81) dX4_set_57 rfl ?_
    refine w_return rfl dX4_set_81 ?_
    exact ⟨rfl, by rw [show stJ x = 5 by unfold stJ; (repeat' split) <;> omega]⟩
  by_cases c_1_23 : x = 23
  · refine w_lookup (pc' := 60) (off := 59) dX4_set_1 (by decide) (by rw [c_1_23]; rfl) rfl ?_
    refine w_aload_n (pc' := 61) (i := 0) (by rfl) (by rfl) dX4_set_60 rfl ?_
    refine w_iload_n (pc' := 62) (i := 2) (by rfl) (by rfl) dX4_set_61 rfl ?_
    refine v_putI (pc' := 65) (ji := 6) rfl fp_X4_18 kd_96 sf_X4_6 dX4_set_62 rfl ?_
    refine w_goto (pc' := 81) dX4_set_65 rfl ?_
    refine w_return rfl dX4_set_81 ?_
    exact ⟨rfl, by rw [show stJ x = 6 by unfold stJ; (repeat' split) <;> omega]⟩
  by_cases c_1_24 : x = 24
  · refine w_lookup (pc' := 68) (off := 67) dX4_set_1 (by decide) (by rw [c_1_24]; rfl) rfl ?_
    refine w_aload_n (pc' := 69) (i := 0) (by rfl) (by rfl) dX4_set_68 rfl ?_
    refine w_iload_n (pc' := 70) (i := 2) (by rfl) (by rfl) dX4_set_69 rfl ?_
    refine v_putI (pc' := 73) (ji := 7) rfl fp_X4_21 kd_96 sf_X4_7 dX4_set_70 rfl ?_
    refine w_goto (pc' := 81) dX4_set_73 rfl ?_
    refine w_return rfl dX4_set_81 ?_
    exact ⟨rfl, by rw [show stJ x = 7 by unfold stJ; (repeat' split) <;> omega]⟩
  refine w_lookup (pc' := 76) (off := 75) dX4_set_1 (by decide) (by simp [Op.lookupswitch.offset, Ne.symm c_1_8, c_1_8, Ne.symm c_1_22, c_1_22, Ne.symm c_1_23, c_1_23, Ne.symm c_1_24, c_1_24]) rfl ?_
  refine w_aload_n (pc' := 77) (i := 0) (by rfl) (by rfl) dX4_set_76 rfl ?_
  refine w_iload_n (pc' := 78) (i := 2) (by rfl) (by rfl) dX4_set_77 rfl ?_
  refine v_putI (pc' := 81) (ji := 8) rfl fp_X4_55 kd_96 sf_X4_8 dX4_set_78 rfl ?_
  refine w_return rfl dX4_set_81 ?_
  exact ⟨rfl, by rw [show stJ x = 8 by unfold stJ; (repeat' split) <;> omega]⟩
theorem kl96_clear {σ : gH} (f k : Int) : Mt mX4_clear 1 [gR 96, gI f, gI k] σ (rE (gX 1) (gUr (gUr (gUp (gUp (gUp (gUp (gUp (gUp (gUp (gUp (gUp (gUp σ 96 1 f) 96 0 k) 96 2 0) 96 3 0) 96 4 1) 96 5 365) 96 6 365) 96 7 90) 96 8 0) 96 15 0) 98 (fillF (σ 98) 10 0)) 99 (fillF (σ 99) 10 0))) := by
  refine Mt.walk (ls := [gR 96, gI f, gI k]) pn_X4 rfl (fun _ _ h => by cases h.1) (Nat.le_of_ble_eq_true rfl) rfl ?_
  refine w_aload_n (pc' := 1) (i := 0) (by rfl) (by rfl) dX4_clear_0 rfl ?_
  refine w_iload_n (pc' := 2) (i := 1) (by rfl) (by rfl) dX4_clear_1 rfl ?_
  refine v_putI (pc' := 5) (ji := 1) rfl fp_X4_43 kd_96 sf_X4_1 dX4_clear_2 rfl ?_
  refine w_aload_n (pc' := 6) (i := 0) (by rfl) (by rfl) dX4_clear_5 rfl ?_
  refine w_iload_n (pc' := 7) (i := 2) (by rfl) (by rfl) dX4_clear_6 rfl ?_
  refine v_putI (pc' := 10) (ji := 0) rfl fp_X4_46 kd_96 sf_X4_0 dX4_clear_7 rfl ?_
  refine w_aload_n (pc' := 11) (i := 0) (by rfl) (by rfl) dX4_clear_10 rfl ?_
  refine w_iconst (pc' := 12) (by decide) dX4_clear_11 rfl ?_
  refine v_putI (pc' := 15) (ji := 2) rfl fp_X4_49 kd_96 sf_X4_2 dX4_clear_12 rfl ?_
  refine w_aload_n (pc' := 16) (i := 0) (by rfl) (by rfl) dX4_clear_15 rfl ?_
  refine w_iconst (pc' := 17) (by decide) dX4_clear_16 rfl ?_
  refine v_putI (pc' := 20) (ji := 3) rfl fp_X4_52 kd_96 sf_X4_3 dX4_clear_17 rfl ?_
  refine w_aload_n (pc' := 21) (i := 0) (by rfl) (by rfl) dX4_clear_20 rfl ?_
  refine w_iconst (pc' := 22) (by decide) dX4_clear_21 rfl ?_
  refine v_putI (pc' := 25) (ji := 4) rfl fp_X4_11 kd_96 sf_X4_4 dX4_clear_22 rfl ?_
  refine w_aload_n (pc' := 26) (i := 0) (by rfl) (by rfl) dX4_clear_25 rfl ?_
  refine w_sipush (pc' := 29) (by decide) (by decide) dX4_clear_26 rfl ?_
  refine v_putI (pc' := 32) (ji := 5) rfl fp_X4_15 kd_96 sf_X4_5 dX4_clear_29 rfl ?_
  refine w_aload_n (pc' := 33) (i := 0) (by rfl) (by rfl) dX4_clear_32 rfl ?_
  refine w_sipush (pc' := 36) (by decide) (by decide) dX4_clear_33 rfl ?_
  refine v_putI (pc' := 39) (ji := 6) rfl fp_X4_18 kd_96 sf_X4_6 dX4_clear_36 rfl ?_
  refine w_aload_n (pc' := 40) (i := 0) (by rfl) (by rfl) dX4_clear_39 rfl ?_
  refine w_bipush (pc' := 42) (by decide) (by decide) dX4_clear_40 rfl ?_
  refine v_putI (pc' := 45) (ji := 7) rfl fp_X4_21 kd_96 sf_X4_7 dX4_clear_42 rfl ?_
  refine w_aload_n (pc' := 46) (i := 0) (by rfl) (by rfl) dX4_clear_45 rfl ?_
  refine w_iconst (pc' := 47) (by decide) dX4_clear_46 rfl ?_
  refine v_putI (pc' := 50) (ji := 8) rfl fp_X4_55 kd_96 sf_X4_8 dX4_clear_47 rfl ?_
  refine w_aload_n (pc' := 51) (i := 0) (by rfl) (by rfl) dX4_clear_50 rfl ?_
  refine w_iconst (pc' := 52) (by decide) dX4_clear_51 rfl ?_
  refine v_putI (pc' := 55) (ji := 15) rfl fp_X4_58 kd_96 sf_X4_15 dX4_clear_52 rfl ?_
  refine w_aload_n (pc' := 56) (i := 0) (by rfl) (by rfl) dX4_clear_55 rfl ?_
  refine w_getS (pc' := 59) (q := 98) fg_X4_28 kd_96 sf_X4_10 gr_96_10 dX4_clear_56 rfl ?_
  refine w_iconst (pc' := 60) (by decide) dX4_clear_59 rfl ?_
  refine v_callSE (pc' := 63) (st' := []) (d' := 0) (av := [gR 98, gI 0]) ms_mJ7_fill_53178 st_mJ7_fill_53178 lk_X4_61 rfl rfl (Nat.le_of_ble_eq_true rfl) (Nat.le_of_ble_eq_true rfl) dX4_clear_60 rfl rfl (k_fillI (x := 98) (n := 10) kd_98 (by decide) (gUp (gUp (gUp (gUp (gUp (gUp (gUp (gUp (gUp (gUp σ 96 1 f) 96 0 k) 96 2 0) 96 3 0) 96 4 1) 96 5 365) 96 6 365) 96 7 90) 96 8 0) 96 15 0) 0) ?_
  refine w_aload_n (pc' := 64) (i := 0) (by rfl) (by rfl) dX4_clear_63 rfl ?_
  refine w_getS (pc' := 67) (q := 99) fg_X4_31 kd_96 sf_X4_11 gr_96_11 dX4_clear_64 rfl ?_
  refine w_iconst (pc' := 68) (by decide) dX4_clear_67 rfl ?_
  refine v_callSE (pc' := 71) (st' := []) (d' := 0) (av := [gR 99, gI 0]) ms_mJ7_fill_53178 st_mJ7_fill_53178 lk_X4_61 rfl rfl (Nat.le_of_ble_eq_true rfl) (Nat.le_of_ble_eq_true rfl) dX4_clear_68 rfl rfl (k_fillI (x := 99) (n := 10) kd_99 (by decide) (gUr (gUp (gUp (gUp (gUp (gUp (gUp (gUp (gUp (gUp (gUp σ 96 1 f) 96 0 k) 96 2 0) 96 3 0) 96 4 1) 96 5 365) 96 6 365) 96 7 90) 96 8 0) 96 15 0) 98 (fillF (σ 98) 10 0)) 0) ?_
  refine w_return rfl dX4_clear_71 ?_
  first | (exfalso; omega) | exact ⟨rfl, rfl⟩
theorem kl103_put {σ : gH} (m s n : Int) (h : 0 ≤ σ 103 15 ∧ σ 103 15 < 120) : Mt mX4_put 0 [gR 103, gI m, gI s, gI n] σ (rE (gX 1) (gUp (gUp (gUp (gUp σ 107 (σ 103 15) m) 108 (σ 103 15) s) 109 (σ 103 15) n) 103 15 (σ 103 15 + 1))) := by
  refine Mt.walk (ls := [gR 103, gI m, gI s, gI n]) pn_X4 rfl (fun _ _ h => by cases h.1) (Nat.le_of_ble_eq_true rfl) rfl ?_
  refine w_aload_n (pc' := 1) (i := 0) (by rfl) (by rfl) dX4_put_0 rfl ?_
  refine v_getI (pc' := 4) (ji := 15) rfl fg_X4_58 kd_103 dX4_put_1 rfl ?_
  refine w_if_lt (pc' := 7) (t := 56) dX4_put_4 rfl rfl (fun c_4 => ?_) (fun c_4 => ?_)
  · skip
    refine w_return rfl dX4_put_56 ?_
    first | (exfalso; omega) | exact ⟨rfl, rfl⟩
  · skip
    refine w_aload_n (pc' := 8) (i := 0) (by rfl) (by rfl) dX4_put_7 rfl ?_
    refine v_getI (pc' := 11) (ji := 15) rfl fg_X4_58 kd_103 dX4_put_8 rfl ?_
    refine w_bipush (pc' := 13) (by decide) (by decide) dX4_put_11 rfl ?_
    refine w_icmp_ge (pc' := 16) (t := 56) dX4_put_13 rfl rfl (fun c_13 => ?_) (fun c_13 => ?_)
    · skip
      refine w_return rfl dX4_put_56 ?_
      first | (exfalso; omega) | exact ⟨rfl, rfl⟩
    · skip
      refine w_aload_n (pc' := 17) (i := 0) (by rfl) (by rfl) dX4_put_16 rfl ?_
      refine w_getS (pc' := 20) (q := 107) fg_X4_34 kd_103 sf_X4_12 gr_103_12 dX4_put_17 rfl ?_
      refine w_aload_n (pc' := 21) (i := 0) (by rfl) (by rfl) dX4_put_20 rfl ?_
      refine v_getI (pc' := 24) (ji := 15) rfl fg_X4_58 kd_103 dX4_put_21 rfl ?_
      refine w_iload_n (pc' := 25) (i := 1) (by rfl) (by rfl) dX4_put_24 rfl ?_
      refine w_iast (pc' := 26) kd_107 (by omega) (by omega) dX4_put_25 rfl ?_
      refine w_aload_n (pc' := 27) (i := 0) (by rfl) (by rfl) dX4_put_26 rfl ?_
      refine w_getS (pc' := 30) (q := 108) fg_X4_37 kd_103 sf_X4_13 gr_103_13 dX4_put_27 rfl ?_
      refine w_aload_n (pc' := 31) (i := 0) (by rfl) (by rfl) dX4_put_30 rfl ?_
      refine v_getI (pc' := 34) (ji := 15) rfl fg_X4_58 kd_103 dX4_put_31 rfl ?_
      show Wp _ _ _ _ _ _ [gI (σ 103 15), gR 108]
      refine w_iload_n (pc' := 35) (i := 2) (by rfl) (by rfl) dX4_put_34 rfl ?_
      refine w_iast (pc' := 36) kd_108 (by omega) (by omega) dX4_put_35 rfl ?_
      refine w_aload_n (pc' := 37) (i := 0) (by rfl) (by rfl) dX4_put_36 rfl ?_
      refine w_getS (pc' := 40) (q := 109) fg_X4_40 kd_103 sf_X4_14 gr_103_14 dX4_put_37 rfl ?_
      refine w_aload_n (pc' := 41) (i := 0) (by rfl) (by rfl) dX4_put_40 rfl ?_
      refine v_getI (pc' := 44) (ji := 15) rfl fg_X4_58 kd_103 dX4_put_41 rfl ?_
      show Wp _ _ _ _ _ _ [gI (σ 103 15), gR 109]
      refine w_iload_n (pc' := 45) (i := 3) (by rfl) (by rfl) dX4_put_44 rfl ?_
      refine w_iast (pc' := 46) kd_109 (by omega) (by omega) dX4_put_45 rfl ?_
      refine w_aload_n (pc' := 47) (i := 0) (by rfl) (by rfl) dX4_put_46 rfl ?_
      refine w_dup (pc' := 48) dX4_put_47 rfl ?_
      refine v_getI (pc' := 51) (ji := 15) rfl fg_X4_58 kd_103 dX4_put_48 rfl ?_
      show Wp _ _ _ _ _ _ [gI (σ 103 15), gR 103]
      refine w_iconst (pc' := 52) (by decide) dX4_put_51 rfl ?_
      refine v_iadd (pc' := 53) (by omega) dX4_put_52 rfl ?_
      refine v_putI (pc' := 56) (ji := 15) rfl fp_X4_58 kd_103 sf_X4_15 dX4_put_53 rfl ?_
      refine w_return rfl dX4_put_56 ?_
      first | (exfalso; omega) | exact ⟨rfl, rfl⟩
theorem kl103_begin {σ : gH} (r : Int) (h : 0 ≤ r ∧ r < 10) : Mt mX4_begin 0 [gR 103, gI r] σ (rE (gX 1) (gUp (gUp σ 105 r (σ 103 15)) 106 r (σ 103 15))) := by
  refine Mt.walk (ls := [gR 103, gI r]) pn_X4 rfl (fun _ _ h => by cases h.1) (Nat.le_of_ble_eq_true rfl) rfl ?_
  refine w_iload_n (pc' := 1) (i := 1) (by rfl) (by rfl) dX4_begin_0 rfl ?_
  refine w_if_lt (pc' := 4) (t := 30) dX4_begin_1 rfl rfl (fun c_1 => ?_) (fun c_1 => ?_)
  · skip
    refine w_return rfl dX4_begin_30 ?_
    first | (exfalso; omega) | exact ⟨rfl, rfl⟩
  · skip
    refine w_iload_n (pc' := 5) (i := 1) (by rfl) (by rfl) dX4_begin_4 rfl ?_
    refine w_bipush (pc' := 7) (by decide) (by decide) dX4_begin_5 rfl ?_
    refine w_icmp_ge (pc' := 10) (t := 30) dX4_begin_7 rfl rfl (fun c_7 => ?_) (fun c_7 => ?_)
    · skip
      refine w_return rfl dX4_begin_30 ?_
      first | (exfalso; omega) | exact ⟨rfl, rfl⟩
    · skip
      refine w_aload_n (pc' := 11) (i := 0) (by rfl) (by rfl) dX4_begin_10 rfl ?_
      refine w_getS (pc' := 14) (q := 105) fg_X4_28 kd_103 sf_X4_10 gr_103_10 dX4_begin_11 rfl ?_
      refine w_iload_n (pc' := 15) (i := 1) (by rfl) (by rfl) dX4_begin_14 rfl ?_
      refine w_aload_n (pc' := 16) (i := 0) (by rfl) (by rfl) dX4_begin_15 rfl ?_
      refine v_getI (pc' := 19) (ji := 15) rfl fg_X4_58 kd_103 dX4_begin_16 rfl ?_
      refine w_iast (pc' := 20) kd_105 (by omega) (by omega) dX4_begin_19 rfl ?_
      refine w_aload_n (pc' := 21) (i := 0) (by rfl) (by rfl) dX4_begin_20 rfl ?_
      refine w_getS (pc' := 24) (q := 106) fg_X4_31 kd_103 sf_X4_11 gr_103_11 dX4_begin_21 rfl ?_
      refine w_iload_n (pc' := 25) (i := 1) (by rfl) (by rfl) dX4_begin_24 rfl ?_
      refine w_aload_n (pc' := 26) (i := 0) (by rfl) (by rfl) dX4_begin_25 rfl ?_
      refine v_getI (pc' := 29) (ji := 15) rfl fg_X4_58 kd_103 dX4_begin_26 rfl ?_
      show Wp _ _ _ _ _ _ [gI (σ 103 15), gI r, gR 106]
      refine w_iast (pc' := 30) kd_106 (by omega) (by omega) dX4_begin_29 rfl ?_
      refine w_return rfl dX4_begin_30 ?_
      first | (exfalso; omega) | exact ⟨rfl, rfl⟩
theorem kl103_finish {σ : gH} (r : Int) (h : 0 ≤ r ∧ r < 10) : Mt mX4_finish 0 [gR 103, gI r] σ (rE (gX 1) (gUp σ 106 r (σ 103 15))) := by
  refine Mt.walk (ls := [gR 103, gI r]) pn_X4 rfl (fun _ _ h => by cases h.1) (Nat.le_of_ble_eq_true rfl) rfl ?_
  refine w_iload_n (pc' := 1) (i := 1) (by rfl) (by rfl) dX4_finish_0 rfl ?_
  refine w_if_lt (pc' := 4) (t := 20) dX4_finish_1 rfl rfl (fun c_1 => ?_) (fun c_1 => ?_)
  · skip
    refine w_return rfl dX4_finish_20 ?_
    first | (exfalso; omega) | exact ⟨rfl, rfl⟩
  · skip
    refine w_iload_n (pc' := 5) (i := 1) (by rfl) (by rfl) dX4_finish_4 rfl ?_
    refine w_bipush (pc' := 7) (by decide) (by decide) dX4_finish_5 rfl ?_
    refine w_icmp_ge (pc' := 10) (t := 20) dX4_finish_7 rfl rfl (fun c_7 => ?_) (fun c_7 => ?_)
    · skip
      refine w_return rfl dX4_finish_20 ?_
      first | (exfalso; omega) | exact ⟨rfl, rfl⟩
    · skip
      refine w_aload_n (pc' := 11) (i := 0) (by rfl) (by rfl) dX4_finish_10 rfl ?_
      refine w_getS (pc' := 14) (q := 106) fg_X4_31 kd_103 sf_X4_11 gr_103_11 dX4_finish_11 rfl ?_
      refine w_iload_n (pc' := 15) (i := 1) (by rfl) (by rfl) dX4_finish_14 rfl ?_
      refine w_aload_n (pc' := 16) (i := 0) (by rfl) (by rfl) dX4_finish_15 rfl ?_
      refine v_getI (pc' := 19) (ji := 15) rfl fg_X4_58 kd_103 dX4_finish_16 rfl ?_
      refine w_iast (pc' := 20) kd_106 (by omega) (by omega) dX4_finish_19 rfl ?_
      refine w_return rfl dX4_finish_20 ?_
      first | (exfalso; omega) | exact ⟨rfl, rfl⟩
theorem kl103_addTell {σ : gH} (x : Int) (h : 0 ≤ σ 103 3 ∧ σ 103 3 < 8) : Mt mX4_addTell 0 [gR 103, gI x] σ (rE (gI (σ 103 3)) (gUp (gUp σ 104 (σ 103 3) x) 103 3 (σ 103 3 + 1))) := by
  refine Mt.walk (ls := [gR 103, gI x]) pn_X4 rfl (fun _ _ h => by cases h.1) (Nat.le_of_ble_eq_true rfl) rfl ?_
  refine w_aload_n (pc' := 1) (i := 0) (by rfl) (by rfl) dX4_addTell_0 rfl ?_
  refine v_getI (pc' := 4) (ji := 3) rfl fg_X4_52 kd_103 dX4_addTell_1 rfl ?_
  refine w_if_lt (pc' := 7) (t := 16) dX4_addTell_4 rfl rfl (fun c_4 => ?_) (fun c_4 => ?_)
  · skip
    refine w_iconst (pc' := 17) (by decide) dX4_addTell_16 rfl ?_
    refine v_ireturn rfl dX4_addTell_17 ?_
    first | (exfalso; omega) | exact ⟨congrArg gI (by omega), rfl⟩
  · skip
    refine w_aload_n (pc' := 8) (i := 0) (by rfl) (by rfl) dX4_addTell_7 rfl ?_
    refine v_getI (pc' := 11) (ji := 3) rfl fg_X4_52 kd_103 dX4_addTell_8 rfl ?_
    refine w_bipush (pc' := 13) (by decide) (by decide) dX4_addTell_11 rfl ?_
    refine w_icmp_lt (pc' := 16) (t := 18) dX4_addTell_13 rfl rfl (fun c_13 => ?_) (fun c_13 => ?_)
    · skip
      refine w_aload_n (pc' := 19) (i := 0) (by rfl) (by rfl) dX4_addTell_18 rfl ?_
      refine w_getS (pc' := 22) (q := 104) fg_X4_24 kd_103 sf_X4_9 gr_103_9 dX4_addTell_19 rfl ?_
      refine w_aload_n (pc' := 23) (i := 0) (by rfl) (by rfl) dX4_addTell_22 rfl ?_
      refine v_getI (pc' := 26) (ji := 3) rfl fg_X4_52 kd_103 dX4_addTell_23 rfl ?_
      refine w_iload_n (pc' := 27) (i := 1) (by rfl) (by rfl) dX4_addTell_26 rfl ?_
      refine w_iast (pc' := 28) kd_104 (by omega) (by omega) dX4_addTell_27 rfl ?_
      refine w_aload_n (pc' := 29) (i := 0) (by rfl) (by rfl) dX4_addTell_28 rfl ?_
      refine w_dup (pc' := 30) dX4_addTell_29 rfl ?_
      refine v_getI (pc' := 33) (ji := 3) rfl fg_X4_52 kd_103 dX4_addTell_30 rfl ?_
      show Wp _ _ _ _ _ _ [gI (σ 103 3), gR 103]
      refine w_iconst (pc' := 34) (by decide) dX4_addTell_33 rfl ?_
      refine v_iadd (pc' := 35) (by omega) dX4_addTell_34 rfl ?_
      refine v_putI (pc' := 38) (ji := 3) rfl fp_X4_52 kd_103 sf_X4_3 dX4_addTell_35 rfl ?_
      refine w_aload_n (pc' := 39) (i := 0) (by rfl) (by rfl) dX4_addTell_38 rfl ?_
      refine v_getI (pc' := 42) (ji := 3) rfl fg_X4_52 kd_103 dX4_addTell_39 rfl ?_
      show Wp _ _ _ _ _ _ [gI ((σ 103 3) + 1)]
      refine w_iconst (pc' := 43) (by decide) dX4_addTell_42 rfl ?_
      refine v_isub (pc' := 44) (by omega) dX4_addTell_43 rfl ?_
      refine v_ireturn rfl dX4_addTell_44 ?_
      first | (exfalso; omega) | exact ⟨congrArg gI (by omega), rfl⟩
    · skip
      refine w_iconst (pc' := 17) (by decide) dX4_addTell_16 rfl ?_
      refine v_ireturn rfl dX4_addTell_17 ?_
      first | (exfalso; omega) | exact ⟨congrArg gI (by omega), rfl⟩
theorem kl103_countRule {σ : gH} (h : 0 ≤ σ 103 2 ∧ σ 103 2 < 600) : Mt mX4_countRule 0 [gR 103] σ (rE (gX 1) (gUp σ 103 2 (σ 103 2 + 1))) := by
  refine Mt.walk (ls := [gR 103]) pn_X4 rfl (fun _ _ h => by cases h.1) (Nat.le_of_ble_eq_true rfl) rfl ?_
  refine w_aload_n (pc' := 1) (i := 0) (by rfl) (by rfl) dX4_countRule_0 rfl ?_
  refine w_dup (pc' := 2) dX4_countRule_1 rfl ?_
  refine v_getI (pc' := 5) (ji := 2) rfl fg_X4_49 kd_103 dX4_countRule_2 rfl ?_
  refine w_iconst (pc' := 6) (by decide) dX4_countRule_5 rfl ?_
  refine v_iadd (pc' := 7) (by omega) dX4_countRule_6 rfl ?_
  refine v_putI (pc' := 10) (ji := 2) rfl fp_X4_49 kd_103 sf_X4_2 dX4_countRule_7 rfl ?_
  refine w_return rfl dX4_countRule_10 ?_
  first | (exfalso; omega) | exact ⟨rfl, rfl⟩
theorem kl103_totalTells {σ : gH}  : Mt mX4_totalTells 0 [gR 103] σ (rE (gI (σ 103 3)) σ) := by
  refine Mt.walk (ls := [gR 103]) pn_X4 rfl (fun _ _ h => by cases h.1) (Nat.le_of_ble_eq_true rfl) rfl ?_
  refine w_aload_n (pc' := 1) (i := 0) (by rfl) (by rfl) dX4_totalTells_0 rfl ?_
  refine v_getI (pc' := 4) (ji := 3) rfl fg_X4_52 kd_103 dX4_totalTells_1 rfl ?_
  refine v_ireturn rfl dX4_totalTells_4 ?_
  first | (exfalso; omega) | exact ⟨rfl, rfl⟩

theorem kl103_set {σ : gH} (x n : Int) : Mt mX4_set 0 [gR 103, gI x, gI n] σ (rE (gX 1) (gUp σ 103 (stJ x) n)) := by
  refine Mt.walk (ls := [gR 103, gI x, gI n]) pn_X4 rfl (fun _ _ h => by cases h.1) (Nat.le_of_ble_eq_true rfl) rfl ?_
  refine w_iload_n (pc' := 1) (i := 1) (by rfl) (by rfl) dX4_set_0 rfl ?_
  by_cases c_1_8 : x = 8
  · refine w_lookup (pc' := 44) (off := 43) dX4_set_1 (by decide) (by rw [c_1_8]; rfl) rfl ?_
    refine w_aload_n (pc' := 45) (i := 0) (by rfl) (by rfl) dX4_set_44 rfl ?_
    refine w_iload_n (pc' := 46) (i := 2) (by rfl) (by rfl) dX4_set_45 rfl ?_
    refine v_putI (pc' := 49) (ji := 4) rfl fp_X4_11 kd_103 sf_X4_4 dX4_set_46 rfl ?_
    refine w_goto (pc' := 81) dX4_set_49 rfl ?_
    refine w_return rfl dX4_set_81 ?_
    exact ⟨rfl, by rw [show stJ x = 4 by unfold stJ; (repeat' split) <;> omega]⟩
  by_cases c_1_22 : x = 22
  · refine w_lookup (pc' := 52) (off := 51) dX4_set_1 (by decide) (by rw [c_1_22]; rfl) rfl ?_
    refine w_aload_n (pc' := 53) (i := 0) (by rfl) (by rfl) dX4_set_52 rfl ?_
    refine w_iload_n (pc' := 54) (i := 2) (by rfl) (by rfl) dX4_set_53 rfl ?_
    refine v_putI (pc' := 57) (ji := 5) rfl fp_X4_15 kd_103 sf_X4_5 dX4_set_54 rfl ?_
    refine w_goto (pc' := 81) dX4_set_57 rfl ?_
    refine w_return rfl dX4_set_81 ?_
    exact ⟨rfl, by rw [show stJ x = 5 by unfold stJ; (repeat' split) <;> omega]⟩
  by_cases c_1_23 : x = 23
  · refine w_lookup (pc' := 60) (off := 59) dX4_set_1 (by decide) (by rw [c_1_23]; rfl) rfl ?_
    refine w_aload_n (pc' := 61) (i := 0) (by rfl) (by rfl) dX4_set_60 rfl ?_
    refine w_iload_n (pc' := 62) (i := 2) (by rfl) (by rfl) dX4_set_61 rfl ?_
    refine v_putI (pc' := 65) (ji := 6) rfl fp_X4_18 kd_103 sf_X4_6 dX4_set_62 rfl ?_
    refine w_goto (pc' := 81) dX4_set_65 rfl ?_
    refine w_return rfl dX4_set_81 ?_
    exact ⟨rfl, by rw [show stJ x = 6 by unfold stJ; (repeat' split) <;> omega]⟩
  by_cases c_1_24 : x = 24
  · refine w_lookup (pc' := 68) (off := 67) dX4_set_1 (by decide) (by rw [c_1_24]; rfl) rfl ?_
    refine w_aload_n (pc' := 69) (i := 0) (by rfl) (by rfl) dX4_set_68 rfl ?_
    refine w_iload_n (pc' := 70) (i := 2) (by rfl) (by rfl) dX4_set_69 rfl ?_
    refine v_putI (pc' := 73) (ji := 7) rfl fp_X4_21 kd_103 sf_X4_7 dX4_set_70 rfl ?_
    refine w_goto (pc' := 81) dX4_set_73 rfl ?_
    refine w_return rfl dX4_set_81 ?_
    exact ⟨rfl, by rw [show stJ x = 7 by unfold stJ; (repeat' split) <;> omega]⟩
  refine w_lookup (pc' := 76) (off := 75) dX4_set_1 (by decide) (by simp [Op.lookupswitch.offset, Ne.symm c_1_8, c_1_8, Ne.symm c_1_22, c_1_22, Ne.symm c_1_23, c_1_23, Ne.symm c_1_24, c_1_24]) rfl ?_
  refine w_aload_n (pc' := 77) (i := 0) (by rfl) (by rfl) dX4_set_76 rfl ?_
  refine w_iload_n (pc' := 78) (i := 2) (by rfl) (by rfl) dX4_set_77 rfl ?_
  refine v_putI (pc' := 81) (ji := 8) rfl fp_X4_55 kd_103 sf_X4_8 dX4_set_78 rfl ?_
  refine w_return rfl dX4_set_81 ?_
  exact ⟨rfl, by rw [show stJ x = 8 by unfold stJ; (repeat' split) <;> omega]⟩
theorem kl103_clear {σ : gH} (f k : Int) : Mt mX4_clear 1 [gR 103, gI f, gI k] σ (rE (gX 1) (gUr (gUr (gUp (gUp (gUp (gUp (gUp (gUp (gUp (gUp (gUp (gUp σ 103 1 f) 103 0 k) 103 2 0) 103 3 0) 103 4 1) 103 5 365) 103 6 365) 103 7 90) 103 8 0) 103 15 0) 105 (fillF (σ 105) 10 0)) 106 (fillF (σ 106) 10 0))) := by
  refine Mt.walk (ls := [gR 103, gI f, gI k]) pn_X4 rfl (fun _ _ h => by cases h.1) (Nat.le_of_ble_eq_true rfl) rfl ?_
  refine w_aload_n (pc' := 1) (i := 0) (by rfl) (by rfl) dX4_clear_0 rfl ?_
  refine w_iload_n (pc' := 2) (i := 1) (by rfl) (by rfl) dX4_clear_1 rfl ?_
  refine v_putI (pc' := 5) (ji := 1) rfl fp_X4_43 kd_103 sf_X4_1 dX4_clear_2 rfl ?_
  refine w_aload_n (pc' := 6) (i := 0) (by rfl) (by rfl) dX4_clear_5 rfl ?_
  refine w_iload_n (pc' := 7) (i := 2) (by rfl) (by rfl) dX4_clear_6 rfl ?_
  refine v_putI (pc' := 10) (ji := 0) rfl fp_X4_46 kd_103 sf_X4_0 dX4_clear_7 rfl ?_
  refine w_aload_n (pc' := 11) (i := 0) (by rfl) (by rfl) dX4_clear_10 rfl ?_
  refine w_iconst (pc' := 12) (by decide) dX4_clear_11 rfl ?_
  refine v_putI (pc' := 15) (ji := 2) rfl fp_X4_49 kd_103 sf_X4_2 dX4_clear_12 rfl ?_
  refine w_aload_n (pc' := 16) (i := 0) (by rfl) (by rfl) dX4_clear_15 rfl ?_
  refine w_iconst (pc' := 17) (by decide) dX4_clear_16 rfl ?_
  refine v_putI (pc' := 20) (ji := 3) rfl fp_X4_52 kd_103 sf_X4_3 dX4_clear_17 rfl ?_
  refine w_aload_n (pc' := 21) (i := 0) (by rfl) (by rfl) dX4_clear_20 rfl ?_
  refine w_iconst (pc' := 22) (by decide) dX4_clear_21 rfl ?_
  refine v_putI (pc' := 25) (ji := 4) rfl fp_X4_11 kd_103 sf_X4_4 dX4_clear_22 rfl ?_
  refine w_aload_n (pc' := 26) (i := 0) (by rfl) (by rfl) dX4_clear_25 rfl ?_
  refine w_sipush (pc' := 29) (by decide) (by decide) dX4_clear_26 rfl ?_
  refine v_putI (pc' := 32) (ji := 5) rfl fp_X4_15 kd_103 sf_X4_5 dX4_clear_29 rfl ?_
  refine w_aload_n (pc' := 33) (i := 0) (by rfl) (by rfl) dX4_clear_32 rfl ?_
  refine w_sipush (pc' := 36) (by decide) (by decide) dX4_clear_33 rfl ?_
  refine v_putI (pc' := 39) (ji := 6) rfl fp_X4_18 kd_103 sf_X4_6 dX4_clear_36 rfl ?_
  refine w_aload_n (pc' := 40) (i := 0) (by rfl) (by rfl) dX4_clear_39 rfl ?_
  refine w_bipush (pc' := 42) (by decide) (by decide) dX4_clear_40 rfl ?_
  refine v_putI (pc' := 45) (ji := 7) rfl fp_X4_21 kd_103 sf_X4_7 dX4_clear_42 rfl ?_
  refine w_aload_n (pc' := 46) (i := 0) (by rfl) (by rfl) dX4_clear_45 rfl ?_
  refine w_iconst (pc' := 47) (by decide) dX4_clear_46 rfl ?_
  refine v_putI (pc' := 50) (ji := 8) rfl fp_X4_55 kd_103 sf_X4_8 dX4_clear_47 rfl ?_
  refine w_aload_n (pc' := 51) (i := 0) (by rfl) (by rfl) dX4_clear_50 rfl ?_
  refine w_iconst (pc' := 52) (by decide) dX4_clear_51 rfl ?_
  refine v_putI (pc' := 55) (ji := 15) rfl fp_X4_58 kd_103 sf_X4_15 dX4_clear_52 rfl ?_
  refine w_aload_n (pc' := 56) (i := 0) (by rfl) (by rfl) dX4_clear_55 rfl ?_
  refine w_getS (pc' := 59) (q := 105) fg_X4_28 kd_103 sf_X4_10 gr_103_10 dX4_clear_56 rfl ?_
  refine w_iconst (pc' := 60) (by decide) dX4_clear_59 rfl ?_
  refine v_callSE (pc' := 63) (st' := []) (d' := 0) (av := [gR 105, gI 0]) ms_mJ7_fill_53178 st_mJ7_fill_53178 lk_X4_61 rfl rfl (Nat.le_of_ble_eq_true rfl) (Nat.le_of_ble_eq_true rfl) dX4_clear_60 rfl rfl (k_fillI (x := 105) (n := 10) kd_105 (by decide) (gUp (gUp (gUp (gUp (gUp (gUp (gUp (gUp (gUp (gUp σ 103 1 f) 103 0 k) 103 2 0) 103 3 0) 103 4 1) 103 5 365) 103 6 365) 103 7 90) 103 8 0) 103 15 0) 0) ?_
  refine w_aload_n (pc' := 64) (i := 0) (by rfl) (by rfl) dX4_clear_63 rfl ?_
  refine w_getS (pc' := 67) (q := 106) fg_X4_31 kd_103 sf_X4_11 gr_103_11 dX4_clear_64 rfl ?_
  refine w_iconst (pc' := 68) (by decide) dX4_clear_67 rfl ?_
  refine v_callSE (pc' := 71) (st' := []) (d' := 0) (av := [gR 106, gI 0]) ms_mJ7_fill_53178 st_mJ7_fill_53178 lk_X4_61 rfl rfl (Nat.le_of_ble_eq_true rfl) (Nat.le_of_ble_eq_true rfl) dX4_clear_68 rfl rfl (k_fillI (x := 106) (n := 10) kd_106 (by decide) (gUr (gUp (gUp (gUp (gUp (gUp (gUp (gUp (gUp (gUp (gUp σ 103 1 f) 103 0 k) 103 2 0) 103 3 0) 103 4 1) 103 5 365) 103 6 365) 103 7 90) 103 8 0) 103 15 0) 105 (fillF (σ 105) 10 0)) 0) ?_
  refine w_return rfl dX4_clear_71 ?_
  first | (exfalso; omega) | exact ⟨rfl, rfl⟩
