/-! the gift call: class and reference (gen/mod_gift2.py) -/
theorem g_describe (σ : gH) (hz : 0 ≤ σ 41 11 ∧ σ 41 11 ≤ 120 ∧ 0 ≤ σ 41 16 ∧ σ 41 16 ≤ 200) (g f a b : Int) (hf : f = 0 ∨ f = 1) : Mt mX2_describe 1 [gR 41, gI g, gI f, gI a, gI b] σ (rE (gX 1) (if 0 ≤ g ∧ g < σ 41 11 then gUp (gUp (gUp σ 46 g f) 47 g a) 48 g b else σ)) := by
  refine Mt.walk (ls := [gR 41, gI g, gI f, gI a, gI b]) pn_X2 rfl (fun _ _ h => by cases h.1) (Nat.le_of_ble_eq_true rfl) rfl ?_
  refine w_aload_n (pc' := 1) (i := 0) (by rfl) (by rfl) dX2_describe_0 rfl ?_
  refine w_iload_n (pc' := 2) (i := 1) (by rfl) (by rfl) dX2_describe_1 rfl ?_
  refine v_callVE (pc' := 5) (st' := [gI (gb (0 ≤ g ∧ g < σ 41 11))]) (d' := 0) (av := [gI g]) mi_mX2_has lk_X2_62 rfl ci_X2 kd_41 rfl (Nat.le_of_ble_eq_true rfl) (Nat.le_of_ble_eq_true rfl) dX2_describe_2 rfl rfl (g_has σ hz g) ?_
  refine v_if_eqB (pc' := 8) (t := 30) dX2_describe_5 rfl rfl (fun c_5 => ?_) (fun c_5 => ?_)
  · skip
    refine w_return rfl dX2_describe_30 ?_
    by_cases hP : 0 ≤ g ∧ g < σ 41 11
    · first | (exfalso; omega) | exact ⟨rfl, (if_pos hP).symm⟩
    · first | (exfalso; omega) | exact ⟨rfl, (if_neg hP).symm⟩
  · skip
    refine w_aload_n (pc' := 9) (i := 0) (by rfl) (by rfl) dX2_describe_8 rfl ?_
    refine w_getS (pc' := 12) (q := 46) fg_X2_24 kd_41 sf_X2_4 gr_41_4 dX2_describe_9 rfl ?_
    refine w_iload_n (pc' := 13) (i := 1) (by rfl) (by rfl) dX2_describe_12 rfl ?_
    refine w_iload_n (pc' := 14) (i := 2) (by rfl) (by rfl) dX2_describe_13 rfl ?_
    refine w_zast (pc' := 15) kd_46 (by exact hf) (by omega) (by omega) dX2_describe_14 rfl ?_
    refine w_aload_n (pc' := 16) (i := 0) (by rfl) (by rfl) dX2_describe_15 rfl ?_
    refine w_getS (pc' := 19) (q := 47) fg_X2_28 kd_41 sf_X2_5 gr_41_5 dX2_describe_16 rfl ?_
    refine w_iload_n (pc' := 20) (i := 1) (by rfl) (by rfl) dX2_describe_19 rfl ?_
    refine w_iload_n (pc' := 21) (i := 3) (by rfl) (by rfl) dX2_describe_20 rfl ?_
    refine w_iast (pc' := 22) kd_47 (by omega) (by omega) dX2_describe_21 rfl ?_
    refine w_aload_n (pc' := 23) (i := 0) (by rfl) (by rfl) dX2_describe_22 rfl ?_
    refine w_getS (pc' := 26) (q := 48) fg_X2_31 kd_41 sf_X2_6 gr_41_6 dX2_describe_23 rfl ?_
    refine w_iload_n (pc' := 27) (i := 1) (by rfl) (by rfl) dX2_describe_26 rfl ?_
    refine w_iload (pc' := 29) (by rfl) dX2_describe_27 rfl ?_
    refine w_iast (pc' := 30) kd_48 (by omega) (by omega) dX2_describe_29 rfl ?_
    refine w_return rfl dX2_describe_30 ?_
    by_cases hP : 0 ≤ g ∧ g < σ 41 11
    · first | (exfalso; omega) | exact ⟨rfl, (if_pos hP).symm⟩
    · first | (exfalso; omega) | exact ⟨rfl, (if_neg hP).symm⟩
