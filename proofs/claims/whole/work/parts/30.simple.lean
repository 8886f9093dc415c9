/-! simple calls: class and reference (gen/mod_simple.py) -/
theorem x_end (σ : gH) (n : Int) : Mt mX11_end 30 [gR 0, gI n] σ (rE (gI (gb (0 ≤ n ∧ n ≤ σ 0 1))) (if 0 ≤ n ∧ n ≤ σ 0 1 then gUp σ 0 1 n else σ)) := by
  refine Mt.walk (ls := [gR 0, gI n]) pn_X11 rfl (fun _ _ h => by cases h.1) (Nat.le_of_ble_eq_true rfl) rfl ?_
  refine w_iload_n (pc' := 1) (i := 1) (by rfl) (by rfl) dX11_end_0 rfl ?_
  refine w_if_lt (pc' := 4) (t := 12) dX11_end_1 rfl rfl (fun c_1 => ?_) (fun c_1 => ?_)
  · skip
    refine w_iconst (pc' := 13) (by decide) dX11_end_12 rfl ?_
    refine w_zreturn rfl (.inl rfl) dX11_end_13 ?_
    by_cases hP : 0 ≤ n ∧ n ≤ σ 0 1
    · first | exact ⟨gbT hP, (if_pos hP).symm⟩ | (exfalso; omega)
    · first | exact ⟨gbF hP, (if_neg hP).symm⟩ | (exfalso; omega)
  · skip
    refine w_iload_n (pc' := 5) (i := 1) (by rfl) (by rfl) dX11_end_4 rfl ?_
    refine w_aload_n (pc' := 6) (i := 0) (by rfl) (by rfl) dX11_end_5 rfl ?_
    refine v_getI (pc' := 9) (ji := 1) rfl fg_X11_89 kd_0 dX11_end_6 rfl ?_
    refine w_icmp_le (pc' := 12) (t := 14) dX11_end_9 rfl rfl (fun c_9 => ?_) (fun c_9 => ?_)
    · skip
      refine w_aload_n (pc' := 15) (i := 0) (by rfl) (by rfl) dX11_end_14 rfl ?_
      refine w_iload_n (pc' := 16) (i := 1) (by rfl) (by rfl) dX11_end_15 rfl ?_
      refine v_putI (pc' := 19) (ji := 1) rfl fp_X11_89 kd_0 sf_X11_1 dX11_end_16 rfl ?_
      refine w_iconst (pc' := 20) (by decide) dX11_end_19 rfl ?_
      refine w_zreturn rfl (.inr rfl) dX11_end_20 ?_
      by_cases hP : 0 ≤ n ∧ n ≤ σ 0 1
      · first | exact ⟨gbT hP, (if_pos hP).symm⟩ | (exfalso; omega)
      · first | exact ⟨gbF hP, (if_neg hP).symm⟩ | (exfalso; omega)
    · skip
      refine w_iconst (pc' := 13) (by decide) dX11_end_12 rfl ?_
      refine w_zreturn rfl (.inl rfl) dX11_end_13 ?_
      by_cases hP : 0 ≤ n ∧ n ≤ σ 0 1
      · first | exact ⟨gbT hP, (if_pos hP).symm⟩ | (exfalso; omega)
      · first | exact ⟨gbF hP, (if_neg hP).symm⟩ | (exfalso; omega)
theorem m_end (σ : gH) (n : Int) : Mt mX12_end 30 [gR 133, gI n] σ (rE (gI (gb (0 ≤ n ∧ n ≤ σ 133 2))) (if 0 ≤ n ∧ n ≤ σ 133 2 then gUp (gUp σ 133 0 0) 133 2 n else gUp σ 133 0 0)) := by
  refine Mt.walk (ls := [gR 133, gI n]) pn_X12 rfl (fun _ _ h => by cases h.1) (Nat.le_of_ble_eq_true rfl) rfl ?_
  refine w_aload_n (pc' := 1) (i := 0) (by rfl) (by rfl) dX12_end_0 rfl ?_
  refine w_iconst (pc' := 2) (by decide) dX12_end_1 rfl ?_
  refine v_putI (pc' := 5) (ji := 0) rfl fp_X12_244 kd_133 sf_X12_0 dX12_end_2 rfl ?_
  refine w_iload_n (pc' := 6) (i := 1) (by rfl) (by rfl) dX12_end_5 rfl ?_
  refine w_if_lt (pc' := 9) (t := 17) dX12_end_6 rfl rfl (fun c_6 => ?_) (fun c_6 => ?_)
  · skip
    refine w_iconst (pc' := 18) (by decide) dX12_end_17 rfl ?_
    refine w_zreturn rfl (.inl rfl) dX12_end_18 ?_
    have e1 : gUp σ 133 0 0 133 2 = σ 133 2 := rfl
    by_cases hP : 0 ≤ n ∧ n ≤ σ 133 2
    · first | exact ⟨gbT hP, (if_pos hP).symm⟩ | (exfalso; omega)
    · first | exact ⟨gbF hP, (if_neg hP).symm⟩ | (exfalso; omega)
  · skip
    refine w_iload_n (pc' := 10) (i := 1) (by rfl) (by rfl) dX12_end_9 rfl ?_
    refine w_aload_n (pc' := 11) (i := 0) (by rfl) (by rfl) dX12_end_10 rfl ?_
    refine v_getI (pc' := 14) (ji := 2) rfl fg_X12_247 kd_133 dX12_end_11 rfl ?_
    refine w_icmp_le (pc' := 17) (t := 19) dX12_end_14 rfl rfl (fun c_14 => ?_) (fun c_14 => ?_)
    · skip
      refine w_aload_n (pc' := 20) (i := 0) (by rfl) (by rfl) dX12_end_19 rfl ?_
      refine w_iload_n (pc' := 21) (i := 1) (by rfl) (by rfl) dX12_end_20 rfl ?_
      refine v_putI (pc' := 24) (ji := 2) rfl fp_X12_247 kd_133 sf_X12_2 dX12_end_21 rfl ?_
      refine w_iconst (pc' := 25) (by decide) dX12_end_24 rfl ?_
      refine w_zreturn rfl (.inr rfl) dX12_end_25 ?_
      have e1 : gUp σ 133 0 0 133 2 = σ 133 2 := rfl
      by_cases hP : 0 ≤ n ∧ n ≤ σ 133 2
      · first | exact ⟨gbT hP, (if_pos hP).symm⟩ | (exfalso; omega)
      · first | exact ⟨gbF hP, (if_neg hP).symm⟩ | (exfalso; omega)
    · skip
      refine w_iconst (pc' := 18) (by decide) dX12_end_17 rfl ?_
      refine w_zreturn rfl (.inl rfl) dX12_end_18 ?_
      have e1 : gUp σ 133 0 0 133 2 = σ 133 2 := rfl
      by_cases hP : 0 ≤ n ∧ n ≤ σ 133 2
      · first | exact ⟨gbT hP, (if_pos hP).symm⟩ | (exfalso; omega)
      · first | exact ⟨gbF hP, (if_neg hP).symm⟩ | (exfalso; omega)
