/-! the calls that add facts (gen/mod_simp.py) -/
theorem CI_reg {MC MM : gM} {as : List gV} (P : gH → Prop) (r1 r2 : gH → Int) (H1 H0 K1 K0 : gH → gH)
    (hx : ∀ σ, Inv σ → Mt MC 30 (gR 0 :: as) σ (fun v σ' => (P σ ∧ v = gI (r1 σ) ∧ σ' = H1 σ) ∨ (¬ P σ ∧ v = gI (r2 σ) ∧ σ' = H0 σ)))
    (hT : ∀ σ, Inv σ → P σ → Mt MM 30 (gR 133 :: as) (H1 σ) (rE (gI (r1 σ)) (K1 σ)))
    (hF : ∀ σ, Inv σ → ¬ P σ → Mt MM 30 (gR 133 :: as) (H0 σ) (rE (gI (r2 σ)) (K0 σ)))
    (h1 : ∀ σ, Inv σ → P σ → Inv (K1 σ)) (h0 : ∀ σ, Inv σ → ¬ P σ → Inv (K0 σ)) : CI Inv MC MM as := by
  refine CI_of fun σ hg hI => ?_
  by_cases hP : P σ
  · refine ⟨r1 σ, fun σ1 => σ1 = H1 σ, (hx σ hI).mono (fun v σ' q => ?_), fun σ1 _ e => ?_⟩
    · rcases q with q | q
      · exact ⟨q.2.1, q.2.2⟩
      · exact absurd hP q.1
    · subst e
      exact (hT σ hI hP).mono fun v σ' q => ⟨q.1, by rw [q.2]; exact h1 σ hI hP⟩
  · refine ⟨r2 σ, fun σ1 => σ1 = H0 σ, (hx σ hI).mono (fun v σ' q => ?_), fun σ1 _ e => ?_⟩
    · rcases q with q | q
      · exact absurd q.1 hP
      · exact ⟨q.2.1, q.2.2⟩
    · subst e
      exact (hF σ hI hP).mono fun v σ' q => ⟨q.1, by rw [q.2]; exact h0 σ hI hP⟩
theorem sp6_addT (σ : gH) (a b p f u t : Int) (hs : 0 ≤ σ 6 6 ∧ σ 6 6 < 100) : Mt mX9_add 0 [gR 6, gI a, gI b, gI p, gI f, gI u, gI t] σ (rE (gI (σ 6 6)) (gUp (gUp (gUp (gUp (gUp (gUp (gUp σ 7 (σ 6 6) a) 8 (σ 6 6) b) 9 (σ 6 6) p) 10 (σ 6 6) f) 11 (σ 6 6) u) 12 (σ 6 6) t) 6 6 (σ 6 6 + 1))) := by
  refine Mt.walk (ls := [gR 6, gI a, gI b, gI p, gI f, gI u, gI t]) pn_X9 rfl (fun _ _ h => by cases h.1) (Nat.le_of_ble_eq_true rfl) rfl ?_
  refine w_aload_n (pc' := 1) (i := 0) (by rfl) (by rfl) dX9_add_0 rfl ?_
  refine v_getI (pc' := 4) (ji := 6) rfl fg_X9_30 kd_6 dX9_add_1 rfl ?_
  refine w_if_lt (pc' := 7) (t := 19) dX9_add_4 rfl rfl (fun c_4 => ?_) (fun c_4 => ?_)
  · skip
    refine w_bipush (pc' := 21) (by decide) (by decide) dX9_add_19 rfl ?_
    refine v_ireturn rfl dX9_add_21 ?_
    first | (exfalso; omega) | exact ⟨congrArg gI (by omega), rfl⟩
  · skip
    refine w_aload_n (pc' := 8) (i := 0) (by rfl) (by rfl) dX9_add_7 rfl ?_
    refine v_getI (pc' := 11) (ji := 6) rfl fg_X9_30 kd_6 dX9_add_8 rfl ?_
    refine w_aload_n (pc' := 12) (i := 0) (by rfl) (by rfl) dX9_add_11 rfl ?_
    refine w_getS (pc' := 15) (q := 7) fg_X9_9 kd_6 sf_X9_0 gr_6_0 dX9_add_12 rfl ?_
    refine w_alen (pc' := 16) kd_7 (by decide) (by decide) dX9_add_15 rfl ?_
    refine w_icmp_lt (pc' := 19) (t := 22) dX9_add_16 rfl rfl (fun c_16 => ?_) (fun c_16 => ?_)
    · skip
      refine w_aload_n (pc' := 23) (i := 0) (by rfl) (by rfl) dX9_add_22 rfl ?_
      refine w_getS (pc' := 26) (q := 7) fg_X9_9 kd_6 sf_X9_0 gr_6_0 dX9_add_23 rfl ?_
      refine w_aload_n (pc' := 27) (i := 0) (by rfl) (by rfl) dX9_add_26 rfl ?_
      refine v_getI (pc' := 30) (ji := 6) rfl fg_X9_30 kd_6 dX9_add_27 rfl ?_
      refine w_iload_n (pc' := 31) (i := 1) (by rfl) (by rfl) dX9_add_30 rfl ?_
      refine w_iast (pc' := 32) kd_7 (by omega) (by omega) dX9_add_31 rfl ?_
      refine w_aload_n (pc' := 33) (i := 0) (by rfl) (by rfl) dX9_add_32 rfl ?_
      refine w_getS (pc' := 36) (q := 8) fg_X9_15 kd_6 sf_X9_1 gr_6_1 dX9_add_33 rfl ?_
      refine w_aload_n (pc' := 37) (i := 0) (by rfl) (by rfl) dX9_add_36 rfl ?_
      refine v_getI (pc' := 40) (ji := 6) rfl fg_X9_30 kd_6 dX9_add_37 rfl ?_
      show Wp _ _ _ _ _ _ [gI (σ 6 6), gR 8]
      refine w_iload_n (pc' := 41) (i := 2) (by rfl) (by rfl) dX9_add_40 rfl ?_
      refine w_iast (pc' := 42) kd_8 (by omega) (by omega) dX9_add_41 rfl ?_
      refine w_aload_n (pc' := 43) (i := 0) (by rfl) (by rfl) dX9_add_42 rfl ?_
      refine w_getS (pc' := 46) (q := 9) fg_X9_18 kd_6 sf_X9_2 gr_6_2 dX9_add_43 rfl ?_
      refine w_aload_n (pc' := 47) (i := 0) (by rfl) (by rfl) dX9_add_46 rfl ?_
      refine v_getI (pc' := 50) (ji := 6) rfl fg_X9_30 kd_6 dX9_add_47 rfl ?_
      show Wp _ _ _ _ _ _ [gI (σ 6 6), gR 9]
      refine w_iload_n (pc' := 51) (i := 3) (by rfl) (by rfl) dX9_add_50 rfl ?_
      refine w_iast (pc' := 52) kd_9 (by omega) (by omega) dX9_add_51 rfl ?_
      refine w_aload_n (pc' := 53) (i := 0) (by rfl) (by rfl) dX9_add_52 rfl ?_
      refine w_getS (pc' := 56) (q := 10) fg_X9_21 kd_6 sf_X9_3 gr_6_3 dX9_add_53 rfl ?_
      refine w_aload_n (pc' := 57) (i := 0) (by rfl) (by rfl) dX9_add_56 rfl ?_
      refine v_getI (pc' := 60) (ji := 6) rfl fg_X9_30 kd_6 dX9_add_57 rfl ?_
      show Wp _ _ _ _ _ _ [gI (σ 6 6), gR 10]
      refine w_iload (pc' := 62) (by rfl) dX9_add_60 rfl ?_
      refine w_iast (pc' := 63) kd_10 (by omega) (by omega) dX9_add_62 rfl ?_
      refine w_aload_n (pc' := 64) (i := 0) (by rfl) (by rfl) dX9_add_63 rfl ?_
      refine w_getS (pc' := 67) (q := 11) fg_X9_24 kd_6 sf_X9_4 gr_6_4 dX9_add_64 rfl ?_
      refine w_aload_n (pc' := 68) (i := 0) (by rfl) (by rfl) dX9_add_67 rfl ?_
      refine v_getI (pc' := 71) (ji := 6) rfl fg_X9_30 kd_6 dX9_add_68 rfl ?_
      show Wp _ _ _ _ _ _ [gI (σ 6 6), gR 11]
      refine w_iload (pc' := 73) (by rfl) dX9_add_71 rfl ?_
      refine w_iast (pc' := 74) kd_11 (by omega) (by omega) dX9_add_73 rfl ?_
      refine w_aload_n (pc' := 75) (i := 0) (by rfl) (by rfl) dX9_add_74 rfl ?_
      refine w_getS (pc' := 78) (q := 12) fg_X9_27 kd_6 sf_X9_5 gr_6_5 dX9_add_75 rfl ?_
      refine w_aload_n (pc' := 79) (i := 0) (by rfl) (by rfl) dX9_add_78 rfl ?_
      refine v_getI (pc' := 82) (ji := 6) rfl fg_X9_30 kd_6 dX9_add_79 rfl ?_
      show Wp _ _ _ _ _ _ [gI (σ 6 6), gR 12]
      refine w_iload (pc' := 84) (by rfl) dX9_add_82 rfl ?_
      refine w_iast (pc' := 85) kd_12 (by omega) (by omega) dX9_add_84 rfl ?_
      refine w_aload_n (pc' := 86) (i := 0) (by rfl) (by rfl) dX9_add_85 rfl ?_
      refine w_dup (pc' := 87) dX9_add_86 rfl ?_
      refine v_getI (pc' := 90) (ji := 6) rfl fg_X9_30 kd_6 dX9_add_87 rfl ?_
      show Wp _ _ _ _ _ _ [gI (σ 6 6), gR 6]
      refine w_iconst (pc' := 91) (by decide) dX9_add_90 rfl ?_
      refine v_iadd (pc' := 92) (by omega) dX9_add_91 rfl ?_
      refine v_putI (pc' := 95) (ji := 6) rfl fp_X9_30 kd_6 sf_X9_6 dX9_add_92 rfl ?_
      refine w_aload_n (pc' := 96) (i := 0) (by rfl) (by rfl) dX9_add_95 rfl ?_
      refine v_getI (pc' := 99) (ji := 6) rfl fg_X9_30 kd_6 dX9_add_96 rfl ?_
      show Wp _ _ _ _ _ _ [gI ((σ 6 6) + 1)]
      refine w_iconst (pc' := 100) (by decide) dX9_add_99 rfl ?_
      refine v_isub (pc' := 101) (by omega) dX9_add_100 rfl ?_
      refine v_ireturn rfl dX9_add_101 ?_
      first | (exfalso; omega) | exact ⟨congrArg gI (by omega), rfl⟩
    · skip
      refine w_bipush (pc' := 21) (by decide) (by decide) dX9_add_19 rfl ?_
      refine v_ireturn rfl dX9_add_21 ?_
      first | (exfalso; omega) | exact ⟨congrArg gI (by omega), rfl⟩
theorem sp6_addF (σ : gH) (a b p f u t : Int) (hs : ¬ σ 6 6 < 100) : Mt mX9_add 0 [gR 6, gI a, gI b, gI p, gI f, gI u, gI t] σ (rE (gI (-5)) σ) := by
  refine Mt.walk (ls := [gR 6, gI a, gI b, gI p, gI f, gI u, gI t]) pn_X9 rfl (fun _ _ h => by cases h.1) (Nat.le_of_ble_eq_true rfl) rfl ?_
  refine w_aload_n (pc' := 1) (i := 0) (by rfl) (by rfl) dX9_add_0 rfl ?_
  refine v_getI (pc' := 4) (ji := 6) rfl fg_X9_30 kd_6 dX9_add_1 rfl ?_
  refine w_if_lt (pc' := 7) (t := 19) dX9_add_4 rfl rfl (fun c_4 => ?_) (fun c_4 => ?_)
  · skip
    refine w_bipush (pc' := 21) (by decide) (by decide) dX9_add_19 rfl ?_
    refine v_ireturn rfl dX9_add_21 ?_
    first | (exfalso; omega) | exact ⟨rfl, rfl⟩
  · skip
    refine w_aload_n (pc' := 8) (i := 0) (by rfl) (by rfl) dX9_add_7 rfl ?_
    refine v_getI (pc' := 11) (ji := 6) rfl fg_X9_30 kd_6 dX9_add_8 rfl ?_
    refine w_aload_n (pc' := 12) (i := 0) (by rfl) (by rfl) dX9_add_11 rfl ?_
    refine w_getS (pc' := 15) (q := 7) fg_X9_9 kd_6 sf_X9_0 gr_6_0 dX9_add_12 rfl ?_
    refine w_alen (pc' := 16) kd_7 (by decide) (by decide) dX9_add_15 rfl ?_
    refine w_icmp_lt (pc' := 19) (t := 22) dX9_add_16 rfl rfl (fun c_16 => ?_) (fun c_16 => ?_)
    · skip
      refine w_aload_n (pc' := 23) (i := 0) (by rfl) (by rfl) dX9_add_22 rfl ?_
      refine w_getS (pc' := 26) (q := 7) fg_X9_9 kd_6 sf_X9_0 gr_6_0 dX9_add_23 rfl ?_
      refine w_aload_n (pc' := 27) (i := 0) (by rfl) (by rfl) dX9_add_26 rfl ?_
      refine v_getI (pc' := 30) (ji := 6) rfl fg_X9_30 kd_6 dX9_add_27 rfl ?_
      refine w_iload_n (pc' := 31) (i := 1) (by rfl) (by rfl) dX9_add_30 rfl ?_
      refine w_iast (pc' := 32) kd_7 (by omega) (by omega) dX9_add_31 rfl ?_
      refine w_aload_n (pc' := 33) (i := 0) (by rfl) (by rfl) dX9_add_32 rfl ?_
      refine w_getS (pc' := 36) (q := 8) fg_X9_15 kd_6 sf_X9_1 gr_6_1 dX9_add_33 rfl ?_
      refine w_aload_n (pc' := 37) (i := 0) (by rfl) (by rfl) dX9_add_36 rfl ?_
      refine v_getI (pc' := 40) (ji := 6) rfl fg_X9_30 kd_6 dX9_add_37 rfl ?_
      show Wp _ _ _ _ _ _ [gI (σ 6 6), gR 8]
      refine w_iload_n (pc' := 41) (i := 2) (by rfl) (by rfl) dX9_add_40 rfl ?_
      refine w_iast (pc' := 42) kd_8 (by omega) (by omega) dX9_add_41 rfl ?_
      refine w_aload_n (pc' := 43) (i := 0) (by rfl) (by rfl) dX9_add_42 rfl ?_
      refine w_getS (pc' := 46) (q := 9) fg_X9_18 kd_6 sf_X9_2 gr_6_2 dX9_add_43 rfl ?_
      refine w_aload_n (pc' := 47) (i := 0) (by rfl) (by rfl) dX9_add_46 rfl ?_
      refine v_getI (pc' := 50) (ji := 6) rfl fg_X9_30 kd_6 dX9_add_47 rfl ?_
      show Wp _ _ _ _ _ _ [gI (σ 6 6), gR 9]
      refine w_iload_n (pc' := 51) (i := 3) (by rfl) (by rfl) dX9_add_50 rfl ?_
      refine w_iast (pc' := 52) kd_9 (by omega) (by omega) dX9_add_51 rfl ?_
      refine w_aload_n (pc' := 53) (i := 0) (by rfl) (by rfl) dX9_add_52 rfl ?_
      refine w_getS (pc' := 56) (q := 10) fg_X9_21 kd_6 sf_X9_3 gr_6_3 dX9_add_53 rfl ?_
      refine w_aload_n (pc' := 57) (i := 0) (by rfl) (by rfl) dX9_add_56 rfl ?_
      refine v_getI (pc' := 60) (ji := 6) rfl fg_X9_30 kd_6 dX9_add_57 rfl ?_
      show Wp _ _ _ _ _ _ [gI (σ 6 6), gR 10]
      refine w_iload (pc' := 62) (by rfl) dX9_add_60 rfl ?_
      refine w_iast (pc' := 63) kd_10 (by omega) (by omega) dX9_add_62 rfl ?_
      refine w_aload_n (pc' := 64) (i := 0) (by rfl) (by rfl) dX9_add_63 rfl ?_
      refine w_getS (pc' := 67) (q := 11) fg_X9_24 kd_6 sf_X9_4 gr_6_4 dX9_add_64 rfl ?_
      refine w_aload_n (pc' := 68) (i := 0) (by rfl) (by rfl) dX9_add_67 rfl ?_
      refine v_getI (pc' := 71) (ji := 6) rfl fg_X9_30 kd_6 dX9_add_68 rfl ?_
      show Wp _ _ _ _ _ _ [gI (σ 6 6), gR 11]
      refine w_iload (pc' := 73) (by rfl) dX9_add_71 rfl ?_
      refine w_iast (pc' := 74) kd_11 (by omega) (by omega) dX9_add_73 rfl ?_
      refine w_aload_n (pc' := 75) (i := 0) (by rfl) (by rfl) dX9_add_74 rfl ?_
      refine w_getS (pc' := 78) (q := 12) fg_X9_27 kd_6 sf_X9_5 gr_6_5 dX9_add_75 rfl ?_
      refine w_aload_n (pc' := 79) (i := 0) (by rfl) (by rfl) dX9_add_78 rfl ?_
      refine v_getI (pc' := 82) (ji := 6) rfl fg_X9_30 kd_6 dX9_add_79 rfl ?_
      show Wp _ _ _ _ _ _ [gI (σ 6 6), gR 12]
      refine w_iload (pc' := 84) (by rfl) dX9_add_82 rfl ?_
      refine w_iast (pc' := 85) kd_12 (by omega) (by omega) dX9_add_84 rfl ?_
      refine w_aload_n (pc' := 86) (i := 0) (by rfl) (by rfl) dX9_add_85 rfl ?_
      refine w_dup (pc' := 87) dX9_add_86 rfl ?_
      refine v_getI (pc' := 90) (ji := 6) rfl fg_X9_30 kd_6 dX9_add_87 rfl ?_
      show Wp _ _ _ _ _ _ [gI (σ 6 6), gR 6]
      refine w_iconst (pc' := 91) (by decide) dX9_add_90 rfl ?_
      refine v_iadd (pc' := 92) (by omega) dX9_add_91 rfl ?_
      refine v_putI (pc' := 95) (ji := 6) rfl fp_X9_30 kd_6 sf_X9_6 dX9_add_92 rfl ?_
      refine w_aload_n (pc' := 96) (i := 0) (by rfl) (by rfl) dX9_add_95 rfl ?_
      refine v_getI (pc' := 99) (ji := 6) rfl fg_X9_30 kd_6 dX9_add_96 rfl ?_
      show Wp _ _ _ _ _ _ [gI ((σ 6 6) + 1)]
      refine w_iconst (pc' := 100) (by decide) dX9_add_99 rfl ?_
      refine v_isub (pc' := 101) (by omega) dX9_add_100 rfl ?_
      refine v_ireturn rfl dX9_add_101 ?_
      first | (exfalso; omega) | exact ⟨rfl, rfl⟩
    · skip
      refine w_bipush (pc' := 21) (by decide) (by decide) dX9_add_19 rfl ?_
      refine v_ireturn rfl dX9_add_21 ?_
      first | (exfalso; omega) | exact ⟨rfl, rfl⟩
theorem sp15_addT (σ : gH) (a b p f u t : Int) (hs : 0 ≤ σ 15 6 ∧ σ 15 6 < 200) : Mt mX9_add 0 [gR 15, gI a, gI b, gI p, gI f, gI u, gI t] σ (rE (gI (σ 15 6)) (gUp (gUp (gUp (gUp (gUp (gUp (gUp σ 16 (σ 15 6) a) 17 (σ 15 6) b) 18 (σ 15 6) p) 19 (σ 15 6) f) 20 (σ 15 6) u) 21 (σ 15 6) t) 15 6 (σ 15 6 + 1))) := by
  refine Mt.walk (ls := [gR 15, gI a, gI b, gI p, gI f, gI u, gI t]) pn_X9 rfl (fun _ _ h => by cases h.1) (Nat.le_of_ble_eq_true rfl) rfl ?_
  refine w_aload_n (pc' := 1) (i := 0) (by rfl) (by rfl) dX9_add_0 rfl ?_
  refine v_getI (pc' := 4) (ji := 6) rfl fg_X9_30 kd_15 dX9_add_1 rfl ?_
  refine w_if_lt (pc' := 7) (t := 19) dX9_add_4 rfl rfl (fun c_4 => ?_) (fun c_4 => ?_)
  · skip
    refine w_bipush (pc' := 21) (by decide) (by decide) dX9_add_19 rfl ?_
    refine v_ireturn rfl dX9_add_21 ?_
    first | (exfalso; omega) | exact ⟨congrArg gI (by omega), rfl⟩
  · skip
    refine w_aload_n (pc' := 8) (i := 0) (by rfl) (by rfl) dX9_add_7 rfl ?_
    refine v_getI (pc' := 11) (ji := 6) rfl fg_X9_30 kd_15 dX9_add_8 rfl ?_
    refine w_aload_n (pc' := 12) (i := 0) (by rfl) (by rfl) dX9_add_11 rfl ?_
    refine w_getS (pc' := 15) (q := 16) fg_X9_9 kd_15 sf_X9_0 gr_15_0 dX9_add_12 rfl ?_
    refine w_alen (pc' := 16) kd_16 (by decide) (by decide) dX9_add_15 rfl ?_
    refine w_icmp_lt (pc' := 19) (t := 22) dX9_add_16 rfl rfl (fun c_16 => ?_) (fun c_16 => ?_)
    · skip
      refine w_aload_n (pc' := 23) (i := 0) (by rfl) (by rfl) dX9_add_22 rfl ?_
      refine w_getS (pc' := 26) (q := 16) fg_X9_9 kd_15 sf_X9_0 gr_15_0 dX9_add_23 rfl ?_
      refine w_aload_n (pc' := 27) (i := 0) (by rfl) (by rfl) dX9_add_26 rfl ?_
      refine v_getI (pc' := 30) (ji := 6) rfl fg_X9_30 kd_15 dX9_add_27 rfl ?_
      refine w_iload_n (pc' := 31) (i := 1) (by rfl) (by rfl) dX9_add_30 rfl ?_
      refine w_iast (pc' := 32) kd_16 (by omega) (by omega) dX9_add_31 rfl ?_
      refine w_aload_n (pc' := 33) (i := 0) (by rfl) (by rfl) dX9_add_32 rfl ?_
      refine w_getS (pc' := 36) (q := 17) fg_X9_15 kd_15 sf_X9_1 gr_15_1 dX9_add_33 rfl ?_
      refine w_aload_n (pc' := 37) (i := 0) (by rfl) (by rfl) dX9_add_36 rfl ?_
      refine v_getI (pc' := 40) (ji := 6) rfl fg_X9_30 kd_15 dX9_add_37 rfl ?_
      show Wp _ _ _ _ _ _ [gI (σ 15 6), gR 17]
      refine w_iload_n (pc' := 41) (i := 2) (by rfl) (by rfl) dX9_add_40 rfl ?_
      refine w_iast (pc' := 42) kd_17 (by omega) (by omega) dX9_add_41 rfl ?_
      refine w_aload_n (pc' := 43) (i := 0) (by rfl) (by rfl) dX9_add_42 rfl ?_
      refine w_getS (pc' := 46) (q := 18) fg_X9_18 kd_15 sf_X9_2 gr_15_2 dX9_add_43 rfl ?_
      refine w_aload_n (pc' := 47) (i := 0) (by rfl) (by rfl) dX9_add_46 rfl ?_
      refine v_getI (pc' := 50) (ji := 6) rfl fg_X9_30 kd_15 dX9_add_47 rfl ?_
      show Wp _ _ _ _ _ _ [gI (σ 15 6), gR 18]
      refine w_iload_n (pc' := 51) (i := 3) (by rfl) (by rfl) dX9_add_50 rfl ?_
      refine w_iast (pc' := 52) kd_18 (by omega) (by omega) dX9_add_51 rfl ?_
      refine w_aload_n (pc' := 53) (i := 0) (by rfl) (by rfl) dX9_add_52 rfl ?_
      refine w_getS (pc' := 56) (q := 19) fg_X9_21 kd_15 sf_X9_3 gr_15_3 dX9_add_53 rfl ?_
      refine w_aload_n (pc' := 57) (i := 0) (by rfl) (by rfl) dX9_add_56 rfl ?_
      refine v_getI (pc' := 60) (ji := 6) rfl fg_X9_30 kd_15 dX9_add_57 rfl ?_
      show Wp _ _ _ _ _ _ [gI (σ 15 6), gR 19]
      refine w_iload (pc' := 62) (by rfl) dX9_add_60 rfl ?_
      refine w_iast (pc' := 63) kd_19 (by omega) (by omega) dX9_add_62 rfl ?_
      refine w_aload_n (pc' := 64) (i := 0) (by rfl) (by rfl) dX9_add_63 rfl ?_
      refine w_getS (pc' := 67) (q := 20) fg_X9_24 kd_15 sf_X9_4 gr_15_4 dX9_add_64 rfl ?_
      refine w_aload_n (pc' := 68) (i := 0) (by rfl) (by rfl) dX9_add_67 rfl ?_
      refine v_getI (pc' := 71) (ji := 6) rfl fg_X9_30 kd_15 dX9_add_68 rfl ?_
      show Wp _ _ _ _ _ _ [gI (σ 15 6), gR 20]
      refine w_iload (pc' := 73) (by rfl) dX9_add_71 rfl ?_
      refine w_iast (pc' := 74) kd_20 (by omega) (by omega) dX9_add_73 rfl ?_
      refine w_aload_n (pc' := 75) (i := 0) (by rfl) (by rfl) dX9_add_74 rfl ?_
      refine w_getS (pc' := 78) (q := 21) fg_X9_27 kd_15 sf_X9_5 gr_15_5 dX9_add_75 rfl ?_
      refine w_aload_n (pc' := 79) (i := 0) (by rfl) (by rfl) dX9_add_78 rfl ?_
      refine v_getI (pc' := 82) (ji := 6) rfl fg_X9_30 kd_15 dX9_add_79 rfl ?_
      show Wp _ _ _ _ _ _ [gI (σ 15 6), gR 21]
      refine w_iload (pc' := 84) (by rfl) dX9_add_82 rfl ?_
      refine w_iast (pc' := 85) kd_21 (by omega) (by omega) dX9_add_84 rfl ?_
      refine w_aload_n (pc' := 86) (i := 0) (by rfl) (by rfl) dX9_add_85 rfl ?_
      refine w_dup (pc' := 87) dX9_add_86 rfl ?_
      refine v_getI (pc' := 90) (ji := 6) rfl fg_X9_30 kd_15 dX9_add_87 rfl ?_
      show Wp _ _ _ _ _ _ [gI (σ 15 6), gR 15]
      refine w_iconst (pc' := 91) (by decide) dX9_add_90 rfl ?_
      refine v_iadd (pc' := 92) (by omega) dX9_add_91 rfl ?_
      refine v_putI (pc' := 95) (ji := 6) rfl fp_X9_30 kd_15 sf_X9_6 dX9_add_92 rfl ?_
      refine w_aload_n (pc' := 96) (i := 0) (by rfl) (by rfl) dX9_add_95 rfl ?_
      refine v_getI (pc' := 99) (ji := 6) rfl fg_X9_30 kd_15 dX9_add_96 rfl ?_
      show Wp _ _ _ _ _ _ [gI ((σ 15 6) + 1)]
      refine w_iconst (pc' := 100) (by decide) dX9_add_99 rfl ?_
      refine v_isub (pc' := 101) (by omega) dX9_add_100 rfl ?_
      refine v_ireturn rfl dX9_add_101 ?_
      first | (exfalso; omega) | exact ⟨congrArg gI (by omega), rfl⟩
    · skip
      refine w_bipush (pc' := 21) (by decide) (by decide) dX9_add_19 rfl ?_
      refine v_ireturn rfl dX9_add_21 ?_
      first | (exfalso; omega) | exact ⟨congrArg gI (by omega), rfl⟩
theorem sp15_addF (σ : gH) (a b p f u t : Int) (hs : ¬ σ 15 6 < 200) : Mt mX9_add 0 [gR 15, gI a, gI b, gI p, gI f, gI u, gI t] σ (rE (gI (-5)) σ) := by
  refine Mt.walk (ls := [gR 15, gI a, gI b, gI p, gI f, gI u, gI t]) pn_X9 rfl (fun _ _ h => by cases h.1) (Nat.le_of_ble_eq_true rfl) rfl ?_
  refine w_aload_n (pc' := 1) (i := 0) (by rfl) (by rfl) dX9_add_0 rfl ?_
  refine v_getI (pc' := 4) (ji := 6) rfl fg_X9_30 kd_15 dX9_add_1 rfl ?_
  refine w_if_lt (pc' := 7) (t := 19) dX9_add_4 rfl rfl (fun c_4 => ?_) (fun c_4 => ?_)
  · skip
    refine w_bipush (pc' := 21) (by decide) (by decide) dX9_add_19 rfl ?_
    refine v_ireturn rfl dX9_add_21 ?_
    first | (exfalso; omega) | exact ⟨rfl, rfl⟩
  · skip
    refine w_aload_n (pc' := 8) (i := 0) (by rfl) (by rfl) dX9_add_7 rfl ?_
    refine v_getI (pc' := 11) (ji := 6) rfl fg_X9_30 kd_15 dX9_add_8 rfl ?_
    refine w_aload_n (pc' := 12) (i := 0) (by rfl) (by rfl) dX9_add_11 rfl ?_
    refine w_getS (pc' := 15) (q := 16) fg_X9_9 kd_15 sf_X9_0 gr_15_0 dX9_add_12 rfl ?_
    refine w_alen (pc' := 16) kd_16 (by decide) (by decide) dX9_add_15 rfl ?_
    refine w_icmp_lt (pc' := 19) (t := 22) dX9_add_16 rfl rfl (fun c_16 => ?_) (fun c_16 => ?_)
    · skip
      refine w_aload_n (pc' := 23) (i := 0) (by rfl) (by rfl) dX9_add_22 rfl ?_
      refine w_getS (pc' := 26) (q := 16) fg_X9_9 kd_15 sf_X9_0 gr_15_0 dX9_add_23 rfl ?_
      refine w_aload_n (pc' := 27) (i := 0) (by rfl) (by rfl) dX9_add_26 rfl ?_
      refine v_getI (pc' := 30) (ji := 6) rfl fg_X9_30 kd_15 dX9_add_27 rfl ?_
      refine w_iload_n (pc' := 31) (i := 1) (by rfl) (by rfl) dX9_add_30 rfl ?_
      refine w_iast (pc' := 32) kd_16 (by omega) (by omega) dX9_add_31 rfl ?_
      refine w_aload_n (pc' := 33) (i := 0) (by rfl) (by rfl) dX9_add_32 rfl ?_
      refine w_getS (pc' := 36) (q := 17) fg_X9_15 kd_15 sf_X9_1 gr_15_1 dX9_add_33 rfl ?_
      refine w_aload_n (pc' := 37) (i := 0) (by rfl) (by rfl) dX9_add_36 rfl ?_
      refine v_getI (pc' := 40) (ji := 6) rfl fg_X9_30 kd_15 dX9_add_37 rfl ?_
      show Wp _ _ _ _ _ _ [gI (σ 15 6), gR 17]
      refine w_iload_n (pc' := 41) (i := 2) (by rfl) (by rfl) dX9_add_40 rfl ?_
      refine w_iast (pc' := 42) kd_17 (by omega) (by omega) dX9_add_41 rfl ?_
      refine w_aload_n (pc' := 43) (i := 0) (by rfl) (by rfl) dX9_add_42 rfl ?_
      refine w_getS (pc' := 46) (q := 18) fg_X9_18 kd_15 sf_X9_2 gr_15_2 dX9_add_43 rfl ?_
      refine w_aload_n (pc' := 47) (i := 0) (by rfl) (by rfl) dX9_add_46 rfl ?_
      refine v_getI (pc' := 50) (ji := 6) rfl fg_X9_30 kd_15 dX9_add_47 rfl ?_
      show Wp _ _ _ _ _ _ [gI (σ 15 6), gR 18]
      refine w_iload_n (pc' := 51) (i := 3) (by rfl) (by rfl) dX9_add_50 rfl ?_
      refine w_iast (pc' := 52) kd_18 (by omega) (by omega) dX9_add_51 rfl ?_
      refine w_aload_n (pc' := 53) (i := 0) (by rfl) (by rfl) dX9_add_52 rfl ?_
      refine w_getS (pc' := 56) (q := 19) fg_X9_21 kd_15 sf_X9_3 gr_15_3 dX9_add_53 rfl ?_
      refine w_aload_n (pc' := 57) (i := 0) (by rfl) (by rfl) dX9_add_56 rfl ?_
      refine v_getI (pc' := 60) (ji := 6) rfl fg_X9_30 kd_15 dX9_add_57 rfl ?_
      show Wp _ _ _ _ _ _ [gI (σ 15 6), gR 19]
      refine w_iload (pc' := 62) (by rfl) dX9_add_60 rfl ?_
      refine w_iast (pc' := 63) kd_19 (by omega) (by omega) dX9_add_62 rfl ?_
      refine w_aload_n (pc' := 64) (i := 0) (by rfl) (by rfl) dX9_add_63 rfl ?_
      refine w_getS (pc' := 67) (q := 20) fg_X9_24 kd_15 sf_X9_4 gr_15_4 dX9_add_64 rfl ?_
      refine w_aload_n (pc' := 68) (i := 0) (by rfl) (by rfl) dX9_add_67 rfl ?_
      refine v_getI (pc' := 71) (ji := 6) rfl fg_X9_30 kd_15 dX9_add_68 rfl ?_
      show Wp _ _ _ _ _ _ [gI (σ 15 6), gR 20]
      refine w_iload (pc' := 73) (by rfl) dX9_add_71 rfl ?_
      refine w_iast (pc' := 74) kd_20 (by omega) (by omega) dX9_add_73 rfl ?_
      refine w_aload_n (pc' := 75) (i := 0) (by rfl) (by rfl) dX9_add_74 rfl ?_
      refine w_getS (pc' := 78) (q := 21) fg_X9_27 kd_15 sf_X9_5 gr_15_5 dX9_add_75 rfl ?_
      refine w_aload_n (pc' := 79) (i := 0) (by rfl) (by rfl) dX9_add_78 rfl ?_
      refine v_getI (pc' := 82) (ji := 6) rfl fg_X9_30 kd_15 dX9_add_79 rfl ?_
      show Wp _ _ _ _ _ _ [gI (σ 15 6), gR 21]
      refine w_iload (pc' := 84) (by rfl) dX9_add_82 rfl ?_
      refine w_iast (pc' := 85) kd_21 (by omega) (by omega) dX9_add_84 rfl ?_
      refine w_aload_n (pc' := 86) (i := 0) (by rfl) (by rfl) dX9_add_85 rfl ?_
      refine w_dup (pc' := 87) dX9_add_86 rfl ?_
      refine v_getI (pc' := 90) (ji := 6) rfl fg_X9_30 kd_15 dX9_add_87 rfl ?_
      show Wp _ _ _ _ _ _ [gI (σ 15 6), gR 15]
      refine w_iconst (pc' := 91) (by decide) dX9_add_90 rfl ?_
      refine v_iadd (pc' := 92) (by omega) dX9_add_91 rfl ?_
      refine v_putI (pc' := 95) (ji := 6) rfl fp_X9_30 kd_15 sf_X9_6 dX9_add_92 rfl ?_
      refine w_aload_n (pc' := 96) (i := 0) (by rfl) (by rfl) dX9_add_95 rfl ?_
      refine v_getI (pc' := 99) (ji := 6) rfl fg_X9_30 kd_15 dX9_add_96 rfl ?_
      show Wp _ _ _ _ _ _ [gI ((σ 15 6) + 1)]
      refine w_iconst (pc' := 100) (by decide) dX9_add_99 rfl ?_
      refine v_isub (pc' := 101) (by omega) dX9_add_100 rfl ?_
      refine v_ireturn rfl dX9_add_101 ?_
      first | (exfalso; omega) | exact ⟨rfl, rfl⟩
    · skip
      refine w_bipush (pc' := 21) (by decide) (by decide) dX9_add_19 rfl ?_
      refine v_ireturn rfl dX9_add_21 ?_
      first | (exfalso; omega) | exact ⟨rfl, rfl⟩
theorem sp34_addT (σ : gH) (a b p f u t : Int) (hs : 0 ≤ σ 34 6 ∧ σ 34 6 < 60) : Mt mX9_add 0 [gR 34, gI a, gI b, gI p, gI f, gI u, gI t] σ (rE (gI (σ 34 6)) (gUp (gUp (gUp (gUp (gUp (gUp (gUp σ 35 (σ 34 6) a) 36 (σ 34 6) b) 37 (σ 34 6) p) 38 (σ 34 6) f) 39 (σ 34 6) u) 40 (σ 34 6) t) 34 6 (σ 34 6 + 1))) := by
  refine Mt.walk (ls := [gR 34, gI a, gI b, gI p, gI f, gI u, gI t]) pn_X9 rfl (fun _ _ h => by cases h.1) (Nat.le_of_ble_eq_true rfl) rfl ?_
  refine w_aload_n (pc' := 1) (i := 0) (by rfl) (by rfl) dX9_add_0 rfl ?_
  refine v_getI (pc' := 4) (ji := 6) rfl fg_X9_30 kd_34 dX9_add_1 rfl ?_
  refine w_if_lt (pc' := 7) (t := 19) dX9_add_4 rfl rfl (fun c_4 => ?_) (fun c_4 => ?_)
  · skip
    refine w_bipush (pc' := 21) (by decide) (by decide) dX9_add_19 rfl ?_
    refine v_ireturn rfl dX9_add_21 ?_
    first | (exfalso; omega) | exact ⟨congrArg gI (by omega), rfl⟩
  · skip
    refine w_aload_n (pc' := 8) (i := 0) (by rfl) (by rfl) dX9_add_7 rfl ?_
    refine v_getI (pc' := 11) (ji := 6) rfl fg_X9_30 kd_34 dX9_add_8 rfl ?_
    refine w_aload_n (pc' := 12) (i := 0) (by rfl) (by rfl) dX9_add_11 rfl ?_
    refine w_getS (pc' := 15) (q := 35) fg_X9_9 kd_34 sf_X9_0 gr_34_0 dX9_add_12 rfl ?_
    refine w_alen (pc' := 16) kd_35 (by decide) (by decide) dX9_add_15 rfl ?_
    refine w_icmp_lt (pc' := 19) (t := 22) dX9_add_16 rfl rfl (fun c_16 => ?_) (fun c_16 => ?_)
    · skip
      refine w_aload_n (pc' := 23) (i := 0) (by rfl) (by rfl) dX9_add_22 rfl ?_
      refine w_getS (pc' := 26) (q := 35) fg_X9_9 kd_34 sf_X9_0 gr_34_0 dX9_add_23 rfl ?_
      refine w_aload_n (pc' := 27) (i := 0) (by rfl) (by rfl) dX9_add_26 rfl ?_
      refine v_getI (pc' := 30) (ji := 6) rfl fg_X9_30 kd_34 dX9_add_27 rfl ?_
      refine w_iload_n (pc' := 31) (i := 1) (by rfl) (by rfl) dX9_add_30 rfl ?_
      refine w_iast (pc' := 32) kd_35 (by omega) (by omega) dX9_add_31 rfl ?_
      refine w_aload_n (pc' := 33) (i := 0) (by rfl) (by rfl) dX9_add_32 rfl ?_
      refine w_getS (pc' := 36) (q := 36) fg_X9_15 kd_34 sf_X9_1 gr_34_1 dX9_add_33 rfl ?_
      refine w_aload_n (pc' := 37) (i := 0) (by rfl) (by rfl) dX9_add_36 rfl ?_
      refine v_getI (pc' := 40) (ji := 6) rfl fg_X9_30 kd_34 dX9_add_37 rfl ?_
      show Wp _ _ _ _ _ _ [gI (σ 34 6), gR 36]
      refine w_iload_n (pc' := 41) (i := 2) (by rfl) (by rfl) dX9_add_40 rfl ?_
      refine w_iast (pc' := 42) kd_36 (by omega) (by omega) dX9_add_41 rfl ?_
      refine w_aload_n (pc' := 43) (i := 0) (by rfl) (by rfl) dX9_add_42 rfl ?_
      refine w_getS (pc' := 46) (q := 37) fg_X9_18 kd_34 sf_X9_2 gr_34_2 dX9_add_43 rfl ?_
      refine w_aload_n (pc' := 47) (i := 0) (by rfl) (by rfl) dX9_add_46 rfl ?_
      refine v_getI (pc' := 50) (ji := 6) rfl fg_X9_30 kd_34 dX9_add_47 rfl ?_
      show Wp _ _ _ _ _ _ [gI (σ 34 6), gR 37]
      refine w_iload_n (pc' := 51) (i := 3) (by rfl) (by rfl) dX9_add_50 rfl ?_
      refine w_iast (pc' := 52) kd_37 (by omega) (by omega) dX9_add_51 rfl ?_
      refine w_aload_n (pc' := 53) (i := 0) (by rfl) (by rfl) dX9_add_52 rfl ?_
      refine w_getS (pc' := 56) (q := 38) fg_X9_21 kd_34 sf_X9_3 gr_34_3 dX9_add_53 rfl ?_
      refine w_aload_n (pc' := 57) (i := 0) (by rfl) (by rfl) dX9_add_56 rfl ?_
      refine v_getI (pc' := 60) (ji := 6) rfl fg_X9_30 kd_34 dX9_add_57 rfl ?_
      show Wp _ _ _ _ _ _ [gI (σ 34 6), gR 38]
      refine w_iload (pc' := 62) (by rfl) dX9_add_60 rfl ?_
      refine w_iast (pc' := 63) kd_38 (by omega) (by omega) dX9_add_62 rfl ?_
      refine w_aload_n (pc' := 64) (i := 0) (by rfl) (by rfl) dX9_add_63 rfl ?_
      refine w_getS (pc' := 67) (q := 39) fg_X9_24 kd_34 sf_X9_4 gr_34_4 dX9_add_64 rfl ?_
      refine w_aload_n (pc' := 68) (i := 0) (by rfl) (by rfl) dX9_add_67 rfl ?_
      refine v_getI (pc' := 71) (ji := 6) rfl fg_X9_30 kd_34 dX9_add_68 rfl ?_
      show Wp _ _ _ _ _ _ [gI (σ 34 6), gR 39]
      refine w_iload (pc' := 73) (by rfl) dX9_add_71 rfl ?_
      refine w_iast (pc' := 74) kd_39 (by omega) (by omega) dX9_add_73 rfl ?_
      refine w_aload_n (pc' := 75) (i := 0) (by rfl) (by rfl) dX9_add_74 rfl ?_
      refine w_getS (pc' := 78) (q := 40) fg_X9_27 kd_34 sf_X9_5 gr_34_5 dX9_add_75 rfl ?_
      refine w_aload_n (pc' := 79) (i := 0) (by rfl) (by rfl) dX9_add_78 rfl ?_
      refine v_getI (pc' := 82) (ji := 6) rfl fg_X9_30 kd_34 dX9_add_79 rfl ?_
      show Wp _ _ _ _ _ _ [gI (σ 34 6), gR 40]
      refine w_iload (pc' := 84) (by rfl) dX9_add_82 rfl ?_
      refine w_iast (pc' := 85) kd_40 (by omega) (by omega) dX9_add_84 rfl ?_
      refine w_aload_n (pc' := 86) (i := 0) (by rfl) (by rfl) dX9_add_85 rfl ?_
      refine w_dup (pc' := 87) dX9_add_86 rfl ?_
      refine v_getI (pc' := 90) (ji := 6) rfl fg_X9_30 kd_34 dX9_add_87 rfl ?_
      show Wp _ _ _ _ _ _ [gI (σ 34 6), gR 34]
      refine w_iconst (pc' := 91) (by decide) dX9_add_90 rfl ?_
      refine v_iadd (pc' := 92) (by omega) dX9_add_91 rfl ?_
      refine v_putI (pc' := 95) (ji := 6) rfl fp_X9_30 kd_34 sf_X9_6 dX9_add_92 rfl ?_
      refine w_aload_n (pc' := 96) (i := 0) (by rfl) (by rfl) dX9_add_95 rfl ?_
      refine v_getI (pc' := 99) (ji := 6) rfl fg_X9_30 kd_34 dX9_add_96 rfl ?_
      show Wp _ _ _ _ _ _ [gI ((σ 34 6) + 1)]
      refine w_iconst (pc' := 100) (by decide) dX9_add_99 rfl ?_
      refine v_isub (pc' := 101) (by omega) dX9_add_100 rfl ?_
      refine v_ireturn rfl dX9_add_101 ?_
      first | (exfalso; omega) | exact ⟨congrArg gI (by omega), rfl⟩
    · skip
      refine w_bipush (pc' := 21) (by decide) (by decide) dX9_add_19 rfl ?_
      refine v_ireturn rfl dX9_add_21 ?_
      first | (exfalso; omega) | exact ⟨congrArg gI (by omega), rfl⟩
theorem sp34_addF (σ : gH) (a b p f u t : Int) (hs : ¬ σ 34 6 < 60) : Mt mX9_add 0 [gR 34, gI a, gI b, gI p, gI f, gI u, gI t] σ (rE (gI (-5)) σ) := by
  refine Mt.walk (ls := [gR 34, gI a, gI b, gI p, gI f, gI u, gI t]) pn_X9 rfl (fun _ _ h => by cases h.1) (Nat.le_of_ble_eq_true rfl) rfl ?_
  refine w_aload_n (pc' := 1) (i := 0) (by rfl) (by rfl) dX9_add_0 rfl ?_
  refine v_getI (pc' := 4) (ji := 6) rfl fg_X9_30 kd_34 dX9_add_1 rfl ?_
  refine w_if_lt (pc' := 7) (t := 19) dX9_add_4 rfl rfl (fun c_4 => ?_) (fun c_4 => ?_)
  · skip
    refine w_bipush (pc' := 21) (by decide) (by decide) dX9_add_19 rfl ?_
    refine v_ireturn rfl dX9_add_21 ?_
    first | (exfalso; omega) | exact ⟨rfl, rfl⟩
  · skip
    refine w_aload_n (pc' := 8) (i := 0) (by rfl) (by rfl) dX9_add_7 rfl ?_
    refine v_getI (pc' := 11) (ji := 6) rfl fg_X9_30 kd_34 dX9_add_8 rfl ?_
    refine w_aload_n (pc' := 12) (i := 0) (by rfl) (by rfl) dX9_add_11 rfl ?_
    refine w_getS (pc' := 15) (q := 35) fg_X9_9 kd_34 sf_X9_0 gr_34_0 dX9_add_12 rfl ?_
    refine w_alen (pc' := 16) kd_35 (by decide) (by decide) dX9_add_15 rfl ?_
    refine w_icmp_lt (pc' := 19) (t := 22) dX9_add_16 rfl rfl (fun c_16 => ?_) (fun c_16 => ?_)
    · skip
      refine w_aload_n (pc' := 23) (i := 0) (by rfl) (by rfl) dX9_add_22 rfl ?_
      refine w_getS (pc' := 26) (q := 35) fg_X9_9 kd_34 sf_X9_0 gr_34_0 dX9_add_23 rfl ?_
      refine w_aload_n (pc' := 27) (i := 0) (by rfl) (by rfl) dX9_add_26 rfl ?_
      refine v_getI (pc' := 30) (ji := 6) rfl fg_X9_30 kd_34 dX9_add_27 rfl ?_
      refine w_iload_n (pc' := 31) (i := 1) (by rfl) (by rfl) dX9_add_30 rfl ?_
      refine w_iast (pc' := 32) kd_35 (by omega) (by omega) dX9_add_31 rfl ?_
      refine w_aload_n (pc' := 33) (i := 0) (by rfl) (by rfl) dX9_add_32 rfl ?_
      refine w_getS (pc' := 36) (q := 36) fg_X9_15 kd_34 sf_X9_1 gr_34_1 dX9_add_33 rfl ?_
      refine w_aload_n (pc' := 37) (i := 0) (by rfl) (by rfl) dX9_add_36 rfl ?_
      refine v_getI (pc' := 40) (ji := 6) rfl fg_X9_30 kd_34 dX9_add_37 rfl ?_
      show Wp _ _ _ _ _ _ [gI (σ 34 6), gR 36]
      refine w_iload_n (pc' := 41) (i := 2) (by rfl) (by rfl) dX9_add_40 rfl ?_
      refine w_iast (pc' := 42) kd_36 (by omega) (by omega) dX9_add_41 rfl ?_
      refine w_aload_n (pc' := 43) (i := 0) (by rfl) (by rfl) dX9_add_42 rfl ?_
      refine w_getS (pc' := 46) (q := 37) fg_X9_18 kd_34 sf_X9_2 gr_34_2 dX9_add_43 rfl ?_
      refine w_aload_n (pc' := 47) (i := 0) (by rfl) (by rfl) dX9_add_46 rfl ?_
      refine v_getI (pc' := 50) (ji := 6) rfl fg_X9_30 kd_34 dX9_add_47 rfl ?_
      show Wp _ _ _ _ _ _ [gI (σ 34 6), gR 37]
      refine w_iload_n (pc' := 51) (i := 3) (by rfl) (by rfl) dX9_add_50 rfl ?_
      refine w_iast (pc' := 52) kd_37 (by omega) (by omega) dX9_add_51 rfl ?_
      refine w_aload_n (pc' := 53) (i := 0) (by rfl) (by rfl) dX9_add_52 rfl ?_
      refine w_getS (pc' := 56) (q := 38) fg_X9_21 kd_34 sf_X9_3 gr_34_3 dX9_add_53 rfl ?_
      refine w_aload_n (pc' := 57) (i := 0) (by rfl) (by rfl) dX9_add_56 rfl ?_
      refine v_getI (pc' := 60) (ji := 6) rfl fg_X9_30 kd_34 dX9_add_57 rfl ?_
      show Wp _ _ _ _ _ _ [gI (σ 34 6), gR 38]
      refine w_iload (pc' := 62) (by rfl) dX9_add_60 rfl ?_
      refine w_iast (pc' := 63) kd_38 (by omega) (by omega) dX9_add_62 rfl ?_
      refine w_aload_n (pc' := 64) (i := 0) (by rfl) (by rfl) dX9_add_63 rfl ?_
      refine w_getS (pc' := 67) (q := 39) fg_X9_24 kd_34 sf_X9_4 gr_34_4 dX9_add_64 rfl ?_
      refine w_aload_n (pc' := 68) (i := 0) (by rfl) (by rfl) dX9_add_67 rfl ?_
      refine v_getI (pc' := 71) (ji := 6) rfl fg_X9_30 kd_34 dX9_add_68 rfl ?_
      show Wp _ _ _ _ _ _ [gI (σ 34 6), gR 39]
      refine w_iload (pc' := 73) (by rfl) dX9_add_71 rfl ?_
      refine w_iast (pc' := 74) kd_39 (by omega) (by omega) dX9_add_73 rfl ?_
      refine w_aload_n (pc' := 75) (i := 0) (by rfl) (by rfl) dX9_add_74 rfl ?_
      refine w_getS (pc' := 78) (q := 40) fg_X9_27 kd_34 sf_X9_5 gr_34_5 dX9_add_75 rfl ?_
      refine w_aload_n (pc' := 79) (i := 0) (by rfl) (by rfl) dX9_add_78 rfl ?_
      refine v_getI (pc' := 82) (ji := 6) rfl fg_X9_30 kd_34 dX9_add_79 rfl ?_
      show Wp _ _ _ _ _ _ [gI (σ 34 6), gR 40]
      refine w_iload (pc' := 84) (by rfl) dX9_add_82 rfl ?_
      refine w_iast (pc' := 85) kd_40 (by omega) (by omega) dX9_add_84 rfl ?_
      refine w_aload_n (pc' := 86) (i := 0) (by rfl) (by rfl) dX9_add_85 rfl ?_
      refine w_dup (pc' := 87) dX9_add_86 rfl ?_
      refine v_getI (pc' := 90) (ji := 6) rfl fg_X9_30 kd_34 dX9_add_87 rfl ?_
      show Wp _ _ _ _ _ _ [gI (σ 34 6), gR 34]
      refine w_iconst (pc' := 91) (by decide) dX9_add_90 rfl ?_
      refine v_iadd (pc' := 92) (by omega) dX9_add_91 rfl ?_
      refine v_putI (pc' := 95) (ji := 6) rfl fp_X9_30 kd_34 sf_X9_6 dX9_add_92 rfl ?_
      refine w_aload_n (pc' := 96) (i := 0) (by rfl) (by rfl) dX9_add_95 rfl ?_
      refine v_getI (pc' := 99) (ji := 6) rfl fg_X9_30 kd_34 dX9_add_96 rfl ?_
      show Wp _ _ _ _ _ _ [gI ((σ 34 6) + 1)]
      refine w_iconst (pc' := 100) (by decide) dX9_add_99 rfl ?_
      refine v_isub (pc' := 101) (by omega) dX9_add_100 rfl ?_
      refine v_ireturn rfl dX9_add_101 ?_
      first | (exfalso; omega) | exact ⟨rfl, rfl⟩
    · skip
      refine w_bipush (pc' := 21) (by decide) (by decide) dX9_add_19 rfl ?_
      refine v_ireturn rfl dX9_add_21 ?_
      first | (exfalso; omega) | exact ⟨rfl, rfl⟩
theorem pa_addKinT (σ : gH) (a b f u t : Int) (hs : 0 ≤ σ 6 6 ∧ σ 6 6 < 100) : Mt mX8_addKin 1 [gR 3, gI a, gI b, gI f, gI u, gI t] σ (rE (gI (σ 6 6)) (gUp (gUp (gUp (gUp (gUp (gUp (gUp σ 7 (σ 6 6) a) 8 (σ 6 6) b) 9 (σ 6 6) 0) 10 (σ 6 6) f) 11 (σ 6 6) u) 12 (σ 6 6) t) 6 6 (σ 6 6 + 1))) := by
  refine Mt.walk (ls := [gR 3, gI a, gI b, gI f, gI u, gI t]) pn_X8 rfl (fun _ _ h => by cases h.1) (Nat.le_of_ble_eq_true rfl) rfl ?_
  refine w_aload_n (pc' := 1) (i := 0) (by rfl) (by rfl) dX8_addKin_0 rfl ?_
  refine w_getS (pc' := 4) (q := 6) fg_X8_24 kd_3 sf_X8_3 gr_3_3 dX8_addKin_1 rfl ?_
  refine w_iload_n (pc' := 5) (i := 1) (by rfl) (by rfl) dX8_addKin_4 rfl ?_
  refine w_iload_n (pc' := 6) (i := 2) (by rfl) (by rfl) dX8_addKin_5 rfl ?_
  refine w_iconst (pc' := 7) (by decide) dX8_addKin_6 rfl ?_
  refine w_iload_n (pc' := 8) (i := 3) (by rfl) (by rfl) dX8_addKin_7 rfl ?_
  refine w_iload (pc' := 10) (by rfl) dX8_addKin_8 rfl ?_
  refine w_iload (pc' := 12) (by rfl) dX8_addKin_10 rfl ?_
  by_cases c_12 : σ 6 6 < 100
  · skip
    refine v_callVE (pc' := 15) (st' := [gI (σ 6 6)]) (d' := 0) (av := [gI a, gI b, gI 0, gI f, gI u, gI t]) mi_mX9_add lk_X8_51 rfl ci_X9 kd_6 rfl (Nat.le_of_ble_eq_true rfl) (Nat.le_of_ble_eq_true rfl) dX8_addKin_12 rfl rfl (sp6_addT σ a b 0 f u t (show 0 ≤ σ 6 6 ∧ σ 6 6 < 100 by omega)) ?_
    show Wp _ _ _ (gUp (gUp (gUp (gUp (gUp (gUp (gUp σ 7 (σ 6 6) a) 8 (σ 6 6) b) 9 (σ 6 6) 0) 10 (σ 6 6) f) 11 (σ 6 6) u) 12 (σ 6 6) t) 6 6 (σ 6 6 + 1)) _ _ [gI (σ 6 6)]
    refine v_ireturn rfl dX8_addKin_15 ?_
    first | (exfalso; omega) | exact ⟨rfl, rfl⟩
  · skip
    refine v_callVE (pc' := 15) (st' := [gI (-5)]) (d' := 0) (av := [gI a, gI b, gI 0, gI f, gI u, gI t]) mi_mX9_add lk_X8_51 rfl ci_X9 kd_6 rfl (Nat.le_of_ble_eq_true rfl) (Nat.le_of_ble_eq_true rfl) dX8_addKin_12 rfl rfl (sp6_addF σ a b 0 f u t (show ¬ σ 6 6 < 100 by omega)) ?_
    show Wp _ _ _ σ _ _ [gI (-5)]
    refine v_ireturn rfl dX8_addKin_15 ?_
    first | (exfalso; omega) | exact ⟨rfl, rfl⟩
theorem pa_addKinF (σ : gH) (a b f u t : Int) (hs : ¬ σ 6 6 < 100) : Mt mX8_addKin 1 [gR 3, gI a, gI b, gI f, gI u, gI t] σ (rE (gI (-5)) σ) := by
  refine Mt.walk (ls := [gR 3, gI a, gI b, gI f, gI u, gI t]) pn_X8 rfl (fun _ _ h => by cases h.1) (Nat.le_of_ble_eq_true rfl) rfl ?_
  refine w_aload_n (pc' := 1) (i := 0) (by rfl) (by rfl) dX8_addKin_0 rfl ?_
  refine w_getS (pc' := 4) (q := 6) fg_X8_24 kd_3 sf_X8_3 gr_3_3 dX8_addKin_1 rfl ?_
  refine w_iload_n (pc' := 5) (i := 1) (by rfl) (by rfl) dX8_addKin_4 rfl ?_
  refine w_iload_n (pc' := 6) (i := 2) (by rfl) (by rfl) dX8_addKin_5 rfl ?_
  refine w_iconst (pc' := 7) (by decide) dX8_addKin_6 rfl ?_
  refine w_iload_n (pc' := 8) (i := 3) (by rfl) (by rfl) dX8_addKin_7 rfl ?_
  refine w_iload (pc' := 10) (by rfl) dX8_addKin_8 rfl ?_
  refine w_iload (pc' := 12) (by rfl) dX8_addKin_10 rfl ?_
  by_cases c_12 : σ 6 6 < 100
  · skip
    refine v_callVE (pc' := 15) (st' := [gI (σ 6 6)]) (d' := 0) (av := [gI a, gI b, gI 0, gI f, gI u, gI t]) mi_mX9_add lk_X8_51 rfl ci_X9 kd_6 rfl (Nat.le_of_ble_eq_true rfl) (Nat.le_of_ble_eq_true rfl) dX8_addKin_12 rfl rfl (sp6_addT σ a b 0 f u t (show 0 ≤ σ 6 6 ∧ σ 6 6 < 100 by omega)) ?_
    show Wp _ _ _ (gUp (gUp (gUp (gUp (gUp (gUp (gUp σ 7 (σ 6 6) a) 8 (σ 6 6) b) 9 (σ 6 6) 0) 10 (σ 6 6) f) 11 (σ 6 6) u) 12 (σ 6 6) t) 6 6 (σ 6 6 + 1)) _ _ [gI (σ 6 6)]
    refine v_ireturn rfl dX8_addKin_15 ?_
    first | (exfalso; omega) | exact ⟨rfl, rfl⟩
  · skip
    refine v_callVE (pc' := 15) (st' := [gI (-5)]) (d' := 0) (av := [gI a, gI b, gI 0, gI f, gI u, gI t]) mi_mX9_add lk_X8_51 rfl ci_X9 kd_6 rfl (Nat.le_of_ble_eq_true rfl) (Nat.le_of_ble_eq_true rfl) dX8_addKin_12 rfl rfl (sp6_addF σ a b 0 f u t (show ¬ σ 6 6 < 100 by omega)) ?_
    show Wp _ _ _ σ _ _ [gI (-5)]
    refine v_ireturn rfl dX8_addKin_15 ?_
    first | (exfalso; omega) | exact ⟨rfl, rfl⟩
theorem cl_isSpan (σ : gH) (f u a : Int) (ha : 0 ≤ a ∧ a ≤ 1) : Mt mX11_isSpan 1 [gI f, gI u, gI a] σ (rE (gI (gb ((0 ≤ f ∧ f ≤ 9999) ∧ (u = -1 ∨ (0 ≤ u ∧ u ≤ 9999) ∧ f + a ≤ u)))) σ) := by
  refine Mt.walk (ls := [gI f, gI u, gI a]) pn_X11 rfl (fun _ _ h => by cases h.1) (Nat.le_of_ble_eq_true rfl) rfl ?_
  refine w_iload_n (pc' := 1) (i := 0) (by rfl) (by rfl) dX11_isSpan_0 rfl ?_
  refine v_callSE (pc' := 4) (st' := [gI (gb (0 ≤ f ∧ f ≤ 9999))]) (d' := 0) (av := [gI f]) ms_mX11_isDay st_mX11_isDay lk_X11_129 rfl rfl (Nat.le_of_ble_eq_true rfl) (Nat.le_of_ble_eq_true rfl) dX11_isSpan_1 rfl rfl (cl_isDay σ f) ?_
  refine v_if_neB (pc' := 7) (t := 9) dX11_isSpan_4 rfl rfl (fun c_4 => ?_) (fun c_4 => ?_)
  · skip
    refine w_iload_n (pc' := 10) (i := 1) (by rfl) (by rfl) dX11_isSpan_9 rfl ?_
    refine w_iconst (pc' := 11) (by decide) dX11_isSpan_10 rfl ?_
    refine w_icmp_eq (pc' := 14) (t := 28) dX11_isSpan_11 rfl rfl (fun c_11 => ?_) (fun c_11 => ?_)
    · skip
      refine w_iconst (pc' := 29) (by decide) dX11_isSpan_28 rfl ?_
      refine w_goto (pc' := 33) dX11_isSpan_29 rfl ?_
      refine w_zreturn rfl (.inr rfl) dX11_isSpan_33 ?_
      first | (exfalso; omega) | exact ⟨gbT (by omega), rfl⟩ | exact ⟨gbF (by omega), rfl⟩
    · skip
      refine w_iload_n (pc' := 15) (i := 1) (by rfl) (by rfl) dX11_isSpan_14 rfl ?_
      refine v_callSE (pc' := 18) (st' := [gI (gb (0 ≤ u ∧ u ≤ 9999))]) (d' := 0) (av := [gI u]) ms_mX11_isDay st_mX11_isDay lk_X11_129 rfl rfl (Nat.le_of_ble_eq_true rfl) (Nat.le_of_ble_eq_true rfl) dX11_isSpan_15 rfl rfl (cl_isDay σ u) ?_
      refine v_if_eqB (pc' := 21) (t := 32) dX11_isSpan_18 rfl rfl (fun c_18 => ?_) (fun c_18 => ?_)
      · skip
        refine w_iconst (pc' := 33) (by decide) dX11_isSpan_32 rfl ?_
        refine w_zreturn rfl (.inl rfl) dX11_isSpan_33 ?_
        first | (exfalso; omega) | exact ⟨gbT (by omega), rfl⟩ | exact ⟨gbF (by omega), rfl⟩
      · skip
        refine w_iload_n (pc' := 22) (i := 1) (by rfl) (by rfl) dX11_isSpan_21 rfl ?_
        refine w_iload_n (pc' := 23) (i := 0) (by rfl) (by rfl) dX11_isSpan_22 rfl ?_
        refine w_iload_n (pc' := 24) (i := 2) (by rfl) (by rfl) dX11_isSpan_23 rfl ?_
        refine v_iadd (pc' := 25) (by omega) dX11_isSpan_24 rfl ?_
        refine w_icmp_lt (pc' := 28) (t := 32) dX11_isSpan_25 rfl rfl (fun c_25 => ?_) (fun c_25 => ?_)
        · skip
          refine w_iconst (pc' := 33) (by decide) dX11_isSpan_32 rfl ?_
          refine w_zreturn rfl (.inl rfl) dX11_isSpan_33 ?_
          first | (exfalso; omega) | exact ⟨gbT (by omega), rfl⟩ | exact ⟨gbF (by omega), rfl⟩
        · skip
          refine w_iconst (pc' := 29) (by decide) dX11_isSpan_28 rfl ?_
          refine w_goto (pc' := 33) dX11_isSpan_29 rfl ?_
          refine w_zreturn rfl (.inr rfl) dX11_isSpan_33 ?_
          first | (exfalso; omega) | exact ⟨gbT (by omega), rfl⟩ | exact ⟨gbF (by omega), rfl⟩
  · skip
    refine w_iconst (pc' := 8) (by decide) dX11_isSpan_7 rfl ?_
    refine w_zreturn rfl (.inl rfl) dX11_isSpan_8 ?_
    first | (exfalso; omega) | exact ⟨gbT (by omega), rfl⟩ | exact ⟨gbF (by omega), rfl⟩
theorem mo_areDays (σ : gH) (f u a : Int) (ha : 0 ≤ a ∧ a ≤ 1) : Mt mX12_areDays 1 [gI f, gI u, gI a] σ (rE (gI (gb ((0 ≤ f ∧ f ≤ 9999) ∧ (u = -1 ∨ (0 ≤ u ∧ u ≤ 9999) ∧ f + a ≤ u)))) σ) := by
  refine Mt.walk (ls := [gI f, gI u, gI a]) pn_X12 rfl (fun _ _ h => by cases h.1) (Nat.le_of_ble_eq_true rfl) rfl ?_
  refine w_iload_n (pc' := 1) (i := 0) (by rfl) (by rfl) dX12_areDays_0 rfl ?_
  refine v_callSE (pc' := 4) (st' := [gI (gb (0 ≤ f ∧ f ≤ 9999))]) (d' := 0) (av := [gI f]) ms_mX12_isDay st_mX12_isDay lk_X12_279 rfl rfl (Nat.le_of_ble_eq_true rfl) (Nat.le_of_ble_eq_true rfl) dX12_areDays_1 rfl rfl (mo_isDay σ f) ?_
  refine v_if_eqB (pc' := 7) (t := 30) dX12_areDays_4 rfl rfl (fun c_4 => ?_) (fun c_4 => ?_)
  · skip
    refine w_iconst (pc' := 31) (by decide) dX12_areDays_30 rfl ?_
    refine w_zreturn rfl (.inl rfl) dX12_areDays_31 ?_
    first | (exfalso; omega) | exact ⟨gbT (by omega), rfl⟩ | exact ⟨gbF (by omega), rfl⟩
  · skip
    refine w_iload_n (pc' := 8) (i := 1) (by rfl) (by rfl) dX12_areDays_7 rfl ?_
    refine w_iconst (pc' := 9) (by decide) dX12_areDays_8 rfl ?_
    refine w_icmp_eq (pc' := 12) (t := 26) dX12_areDays_9 rfl rfl (fun c_9 => ?_) (fun c_9 => ?_)
    · skip
      refine w_iconst (pc' := 27) (by decide) dX12_areDays_26 rfl ?_
      refine w_goto (pc' := 31) dX12_areDays_27 rfl ?_
      refine w_zreturn rfl (.inr rfl) dX12_areDays_31 ?_
      first | (exfalso; omega) | exact ⟨gbT (by omega), rfl⟩ | exact ⟨gbF (by omega), rfl⟩
    · skip
      refine w_iload_n (pc' := 13) (i := 1) (by rfl) (by rfl) dX12_areDays_12 rfl ?_
      refine v_callSE (pc' := 16) (st' := [gI (gb (0 ≤ u ∧ u ≤ 9999))]) (d' := 0) (av := [gI u]) ms_mX12_isDay st_mX12_isDay lk_X12_279 rfl rfl (Nat.le_of_ble_eq_true rfl) (Nat.le_of_ble_eq_true rfl) dX12_areDays_13 rfl rfl (mo_isDay σ u) ?_
      refine v_if_eqB (pc' := 19) (t := 30) dX12_areDays_16 rfl rfl (fun c_16 => ?_) (fun c_16 => ?_)
      · skip
        refine w_iconst (pc' := 31) (by decide) dX12_areDays_30 rfl ?_
        refine w_zreturn rfl (.inl rfl) dX12_areDays_31 ?_
        first | (exfalso; omega) | exact ⟨gbT (by omega), rfl⟩ | exact ⟨gbF (by omega), rfl⟩
      · skip
        refine w_iload_n (pc' := 20) (i := 1) (by rfl) (by rfl) dX12_areDays_19 rfl ?_
        refine w_iload_n (pc' := 21) (i := 0) (by rfl) (by rfl) dX12_areDays_20 rfl ?_
        refine w_iload_n (pc' := 22) (i := 2) (by rfl) (by rfl) dX12_areDays_21 rfl ?_
        refine v_iadd (pc' := 23) (by omega) dX12_areDays_22 rfl ?_
        refine w_icmp_lt (pc' := 26) (t := 30) dX12_areDays_23 rfl rfl (fun c_23 => ?_) (fun c_23 => ?_)
        · skip
          refine w_iconst (pc' := 31) (by decide) dX12_areDays_30 rfl ?_
          refine w_zreturn rfl (.inl rfl) dX12_areDays_31 ?_
          first | (exfalso; omega) | exact ⟨gbT (by omega), rfl⟩ | exact ⟨gbF (by omega), rfl⟩
        · skip
          refine w_iconst (pc' := 27) (by decide) dX12_areDays_26 rfl ?_
          refine w_goto (pc' := 31) dX12_areDays_27 rfl ?_
          refine w_zreturn rfl (.inr rfl) dX12_areDays_31 ?_
          first | (exfalso; omega) | exact ⟨gbT (by omega), rfl⟩ | exact ⟨gbF (by omega), rfl⟩
theorem x_next {σ : gH} (hI : Inv σ) (n : Int)  : Mt mX11_next 30 [gR 0, gI n] σ (fun v σ' => ((0 ≤ n ∧ n ≤ 9999 ∧ σ 0 4 + n ≤ 9999) ∧ v = gI (σ 0 4 + n) ∧ σ' = gUp σ 0 4 ((σ 0 4) + n)) ∨ (¬ (0 ≤ n ∧ n ≤ 9999 ∧ σ 0 4 + n ≤ 9999) ∧ v = gI (-1) ∧ σ' = σ)) := by
  refine Mt.walk (ls := [gR 0, gI n]) pn_X11 rfl (fun _ _ h => by rcases h with h | h <;> exact absurd h.2.1 (by intro h; cases h)) (Nat.le_of_ble_eq_true rfl) rfl ?_
  have hday := hI.f.day
  unfold S_day at hday
  have hp := hI.f.hp
  have hp0 := hI.f.party.2.1
  have hT := hI.f.tape.2.1
  have hT2 := hI.f.tape.2.2.1
  refine w_iload_n (pc' := 1) (i := 1) (by rfl) (by rfl) dX11_next_0 rfl ?_
  refine w_if_lt (pc' := 4) (t := 23) dX11_next_1 rfl rfl (fun c_1 => ?_) (fun c_1 => ?_)
  · skip
    refine w_iconst (pc' := 24) (by decide) dX11_next_23 rfl ?_
    refine v_ireturn rfl dX11_next_24 ?_
    first
      | (exfalso; omega)
      | exact .inl ⟨by omega, (by first | rfl | exact congrArg gI (by omega) | exact congrArg gI (gb_t (by omega)) | exact congrArg gI (gb_f (by omega)) | (refine congrArg gI ?_; (repeat' split) <;> omega)), rfl⟩
      | exact .inr ⟨by omega, (by first | rfl | exact congrArg gI (by omega) | exact congrArg gI (gb_t (by omega)) | exact congrArg gI (gb_f (by omega)) | (refine congrArg gI ?_; (repeat' split) <;> omega)), rfl⟩
  · skip
    refine w_iload_n (pc' := 5) (i := 1) (by rfl) (by rfl) dX11_next_4 rfl ?_
    refine w_sipush (pc' := 8) (by decide) (by decide) dX11_next_5 rfl ?_
    refine w_icmp_gt (pc' := 11) (t := 23) dX11_next_8 rfl rfl (fun c_8 => ?_) (fun c_8 => ?_)
    · skip
      refine w_iconst (pc' := 24) (by decide) dX11_next_23 rfl ?_
      refine v_ireturn rfl dX11_next_24 ?_
      first
        | (exfalso; omega)
        | exact .inl ⟨by omega, (by first | rfl | exact congrArg gI (by omega) | exact congrArg gI (gb_t (by omega)) | exact congrArg gI (gb_f (by omega)) | (refine congrArg gI ?_; (repeat' split) <;> omega)), rfl⟩
        | exact .inr ⟨by omega, (by first | rfl | exact congrArg gI (by omega) | exact congrArg gI (gb_t (by omega)) | exact congrArg gI (gb_f (by omega)) | (refine congrArg gI ?_; (repeat' split) <;> omega)), rfl⟩
    · skip
      refine w_aload_n (pc' := 12) (i := 0) (by rfl) (by rfl) dX11_next_11 rfl ?_
      refine v_getI (pc' := 15) (ji := 4) rfl fg_X11_96 kd_0 dX11_next_12 rfl ?_
      refine w_iload_n (pc' := 16) (i := 1) (by rfl) (by rfl) dX11_next_15 rfl ?_
      refine v_iadd (pc' := 17) (by omega) dX11_next_16 rfl ?_
      refine w_sipush (pc' := 20) (by decide) (by decide) dX11_next_17 rfl ?_
      refine w_icmp_le (pc' := 23) (t := 25) dX11_next_20 rfl rfl (fun c_20 => ?_) (fun c_20 => ?_)
      · skip
        refine w_aload_n (pc' := 26) (i := 0) (by rfl) (by rfl) dX11_next_25 rfl ?_
        refine w_dup (pc' := 27) dX11_next_26 rfl ?_
        refine v_getI (pc' := 30) (ji := 4) rfl fg_X11_96 kd_0 dX11_next_27 rfl ?_
        refine w_iload_n (pc' := 31) (i := 1) (by rfl) (by rfl) dX11_next_30 rfl ?_
        refine v_iadd (pc' := 32) (by omega) dX11_next_31 rfl ?_
        refine v_putI (pc' := 35) (ji := 4) rfl fp_X11_96 kd_0 sf_X11_4 dX11_next_32 rfl ?_
        refine w_aload_n (pc' := 36) (i := 0) (by rfl) (by rfl) dX11_next_35 rfl ?_
        refine v_getI (pc' := 39) (ji := 4) rfl fg_X11_96 kd_0 dX11_next_36 rfl ?_
        show Wp _ _ _ _ _ _ [gI ((σ 0 4) + n)]
        refine v_ireturn rfl dX11_next_39 ?_
        first
          | (exfalso; omega)
          | exact .inl ⟨by omega, (by first | rfl | exact congrArg gI (by omega) | exact congrArg gI (gb_t (by omega)) | exact congrArg gI (gb_f (by omega)) | (refine congrArg gI ?_; (repeat' split) <;> omega)), rfl⟩
          | exact .inr ⟨by omega, (by first | rfl | exact congrArg gI (by omega) | exact congrArg gI (gb_t (by omega)) | exact congrArg gI (gb_f (by omega)) | (refine congrArg gI ?_; (repeat' split) <;> omega)), rfl⟩
      · skip
        refine w_iconst (pc' := 24) (by decide) dX11_next_23 rfl ?_
        refine v_ireturn rfl dX11_next_24 ?_
        first
          | (exfalso; omega)
          | exact .inl ⟨by omega, (by first | rfl | exact congrArg gI (by omega) | exact congrArg gI (gb_t (by omega)) | exact congrArg gI (gb_f (by omega)) | (refine congrArg gI ?_; (repeat' split) <;> omega)), rfl⟩
          | exact .inr ⟨by omega, (by first | rfl | exact congrArg gI (by omega) | exact congrArg gI (gb_t (by omega)) | exact congrArg gI (gb_f (by omega)) | (refine congrArg gI ?_; (repeat' split) <;> omega)), rfl⟩
theorem m_nextT {σ : gH} (hI : Inv σ) (n : Int)  (hP : 0 ≤ n ∧ n ≤ 9999 ∧ σ 0 4 + n ≤ 9999) : Mt mX12_next 30 [gR 133, gI n] (gUp σ 0 4 ((σ 0 4) + n)) (rE (gI (σ 0 4 + n)) (gUp (gUp (gUp σ 0 4 ((σ 0 4) + n)) 133 0 0) 133 3 ((σ 0 4) + n))) := by
  refine Mt.walk (ls := [gR 133, gI n]) pn_X12 rfl (fun _ _ h => by cases h.1) (Nat.le_of_ble_eq_true rfl) rfl ?_
  have hday := hI.f.day
  unfold S_day at hday
  have hp := hI.f.hp
  have hp0 := hI.f.party.2.1
  have hT := hI.f.tape.2.1
  have hT2 := hI.f.tape.2.2.1
  refine w_aload_n (pc' := 1) (i := 0) (by rfl) (by rfl) dX12_next_0 rfl ?_
  refine w_iconst (pc' := 2) (by decide) dX12_next_1 rfl ?_
  refine v_putI (pc' := 5) (ji := 0) rfl fp_X12_244 kd_133 sf_X12_0 dX12_next_2 rfl ?_
  refine w_iload_n (pc' := 6) (i := 1) (by rfl) (by rfl) dX12_next_5 rfl ?_
  refine w_iconst (pc' := 7) (by decide) dX12_next_6 rfl ?_
  refine w_sipush (pc' := 10) (by decide) (by decide) dX12_next_7 rfl ?_
  refine v_callSE (pc' := 13) (st' := [gI (gb (0 ≤ n ∧ n ≤ 9999))]) (d' := 0) (av := [gI n, gI 0, gI 9999]) ms_mX12_isIn st_mX12_isIn lk_X12_254 rfl rfl (Nat.le_of_ble_eq_true rfl) (Nat.le_of_ble_eq_true rfl) dX12_next_10 rfl rfl (mo_isIn (gUp (gUp σ 0 4 ((σ 0 4) + n)) 133 0 0) n 0 9999) ?_
  refine v_if_eqB (pc' := 16) (t := 28) dX12_next_13 rfl rfl (fun c_13 => ?_) (fun c_13 => ?_)
  · skip
    refine w_iconst (pc' := 29) (by decide) dX12_next_28 rfl ?_
    refine v_ireturn rfl dX12_next_29 ?_
    first
      | (exfalso; omega)
      | exact ⟨(by first | rfl | exact congrArg gI (by omega) | exact congrArg gI (gb_t (by omega)) | exact congrArg gI (gb_f (by omega)) | (refine congrArg gI ?_; (repeat' split) <;> omega)), rfl⟩
  · skip
    refine w_aload_n (pc' := 17) (i := 0) (by rfl) (by rfl) dX12_next_16 rfl ?_
    refine v_getI (pc' := 20) (ji := 3) rfl fg_X12_258 kd_133 dX12_next_17 rfl ?_
    show Wp _ _ _ _ _ _ [gI (σ 133 3)]
    rw [hI.f3]
    refine w_iload_n (pc' := 21) (i := 1) (by rfl) (by rfl) dX12_next_20 rfl ?_
    refine v_iadd (pc' := 22) (by omega) dX12_next_21 rfl ?_
    refine w_sipush (pc' := 25) (by decide) (by decide) dX12_next_22 rfl ?_
    refine w_icmp_le (pc' := 28) (t := 30) dX12_next_25 rfl rfl (fun c_25 => ?_) (fun c_25 => ?_)
    · skip
      refine w_aload_n (pc' := 31) (i := 0) (by rfl) (by rfl) dX12_next_30 rfl ?_
      refine w_dup (pc' := 32) dX12_next_31 rfl ?_
      refine v_getI (pc' := 35) (ji := 3) rfl fg_X12_258 kd_133 dX12_next_32 rfl ?_
      show Wp _ _ _ _ _ _ [gI (σ 133 3), gR 133]
      rw [hI.f3]
      refine w_iload_n (pc' := 36) (i := 1) (by rfl) (by rfl) dX12_next_35 rfl ?_
      refine v_iadd (pc' := 37) (by omega) dX12_next_36 rfl ?_
      refine v_putI (pc' := 40) (ji := 3) rfl fp_X12_258 kd_133 sf_X12_3 dX12_next_37 rfl ?_
      refine w_aload_n (pc' := 41) (i := 0) (by rfl) (by rfl) dX12_next_40 rfl ?_
      refine v_getI (pc' := 44) (ji := 3) rfl fg_X12_258 kd_133 dX12_next_41 rfl ?_
      show Wp _ _ _ _ _ _ [gI ((σ 0 4) + n)]
      refine v_ireturn rfl dX12_next_44 ?_
      first
        | (exfalso; omega)
        | exact ⟨(by first | rfl | exact congrArg gI (by omega) | exact congrArg gI (gb_t (by omega)) | exact congrArg gI (gb_f (by omega)) | (refine congrArg gI ?_; (repeat' split) <;> omega)), rfl⟩
    · skip
      refine w_iconst (pc' := 29) (by decide) dX12_next_28 rfl ?_
      refine v_ireturn rfl dX12_next_29 ?_
      first
        | (exfalso; omega)
        | exact ⟨(by first | rfl | exact congrArg gI (by omega) | exact congrArg gI (gb_t (by omega)) | exact congrArg gI (gb_f (by omega)) | (refine congrArg gI ?_; (repeat' split) <;> omega)), rfl⟩
theorem m_nextF {σ : gH} (hI : Inv σ) (n : Int)  (hP : ¬ (0 ≤ n ∧ n ≤ 9999 ∧ σ 0 4 + n ≤ 9999)) : Mt mX12_next 30 [gR 133, gI n] σ (rE (gI (-1)) (gUp σ 133 0 0)) := by
  refine Mt.walk (ls := [gR 133, gI n]) pn_X12 rfl (fun _ _ h => by cases h.1) (Nat.le_of_ble_eq_true rfl) rfl ?_
  have hday := hI.f.day
  unfold S_day at hday
  have hp := hI.f.hp
  have hp0 := hI.f.party.2.1
  have hT := hI.f.tape.2.1
  have hT2 := hI.f.tape.2.2.1
  refine w_aload_n (pc' := 1) (i := 0) (by rfl) (by rfl) dX12_next_0 rfl ?_
  refine w_iconst (pc' := 2) (by decide) dX12_next_1 rfl ?_
  refine v_putI (pc' := 5) (ji := 0) rfl fp_X12_244 kd_133 sf_X12_0 dX12_next_2 rfl ?_
  refine w_iload_n (pc' := 6) (i := 1) (by rfl) (by rfl) dX12_next_5 rfl ?_
  refine w_iconst (pc' := 7) (by decide) dX12_next_6 rfl ?_
  refine w_sipush (pc' := 10) (by decide) (by decide) dX12_next_7 rfl ?_
  refine v_callSE (pc' := 13) (st' := [gI (gb (0 ≤ n ∧ n ≤ 9999))]) (d' := 0) (av := [gI n, gI 0, gI 9999]) ms_mX12_isIn st_mX12_isIn lk_X12_254 rfl rfl (Nat.le_of_ble_eq_true rfl) (Nat.le_of_ble_eq_true rfl) dX12_next_10 rfl rfl (mo_isIn (gUp σ 133 0 0) n 0 9999) ?_
  refine v_if_eqB (pc' := 16) (t := 28) dX12_next_13 rfl rfl (fun c_13 => ?_) (fun c_13 => ?_)
  · skip
    refine w_iconst (pc' := 29) (by decide) dX12_next_28 rfl ?_
    refine v_ireturn rfl dX12_next_29 ?_
    first
      | (exfalso; omega)
      | exact ⟨(by first | rfl | exact congrArg gI (by omega) | exact congrArg gI (gb_t (by omega)) | exact congrArg gI (gb_f (by omega)) | (refine congrArg gI ?_; (repeat' split) <;> omega)), rfl⟩
  · skip
    refine w_aload_n (pc' := 17) (i := 0) (by rfl) (by rfl) dX12_next_16 rfl ?_
    refine v_getI (pc' := 20) (ji := 3) rfl fg_X12_258 kd_133 dX12_next_17 rfl ?_
    show Wp _ _ _ _ _ _ [gI (σ 133 3)]
    rw [hI.f3]
    refine w_iload_n (pc' := 21) (i := 1) (by rfl) (by rfl) dX12_next_20 rfl ?_
    refine v_iadd (pc' := 22) (by omega) dX12_next_21 rfl ?_
    refine w_sipush (pc' := 25) (by decide) (by decide) dX12_next_22 rfl ?_
    refine w_icmp_le (pc' := 28) (t := 30) dX12_next_25 rfl rfl (fun c_25 => ?_) (fun c_25 => ?_)
    · skip
      refine w_aload_n (pc' := 31) (i := 0) (by rfl) (by rfl) dX12_next_30 rfl ?_
      refine w_dup (pc' := 32) dX12_next_31 rfl ?_
      refine v_getI (pc' := 35) (ji := 3) rfl fg_X12_258 kd_133 dX12_next_32 rfl ?_
      show Wp _ _ _ _ _ _ [gI (σ 133 3), gR 133]
      rw [hI.f3]
      refine w_iload_n (pc' := 36) (i := 1) (by rfl) (by rfl) dX12_next_35 rfl ?_
      refine v_iadd (pc' := 37) (by omega) dX12_next_36 rfl ?_
      refine v_putI (pc' := 40) (ji := 3) rfl fp_X12_258 kd_133 sf_X12_3 dX12_next_37 rfl ?_
      refine w_aload_n (pc' := 41) (i := 0) (by rfl) (by rfl) dX12_next_40 rfl ?_
      refine v_getI (pc' := 44) (ji := 3) rfl fg_X12_258 kd_133 dX12_next_41 rfl ?_
      show Wp _ _ _ _ _ _ [gI ((σ 0 4) + n)]
      refine v_ireturn rfl dX12_next_44 ?_
      first
        | (exfalso; omega)
        | exact ⟨(by first | rfl | exact congrArg gI (by omega) | exact congrArg gI (gb_t (by omega)) | exact congrArg gI (gb_f (by omega)) | (refine congrArg gI ?_; (repeat' split) <;> omega)), rfl⟩
    · skip
      refine w_iconst (pc' := 29) (by decide) dX12_next_28 rfl ?_
      refine v_ireturn rfl dX12_next_29 ?_
      first
        | (exfalso; omega)
        | exact ⟨(by first | rfl | exact congrArg gI (by omega) | exact congrArg gI (gb_t (by omega)) | exact congrArg gI (gb_f (by omega)) | (refine congrArg gI ?_; (repeat' split) <;> omega)), rfl⟩
theorem i_next {σ : gH} (hI : Inv σ) (n : Int)  (hP : 0 ≤ n ∧ n ≤ 9999 ∧ σ 0 4 + n ≤ 9999) : Inv (gUp (gUp (gUp σ 0 4 ((σ 0 4) + n)) 133 0 0) 133 3 ((σ 0 4) + n)) := by
  refine ⟨⟨⟨?_, hI.f.tape, hI.f.outs, hI.f.party, hI.f.own, hI.f.kin, hI.f.post, hI.f.gift, hI.f.worth, hI.f.mem, hI.f.mat, hI.f.vote, hI.f.ent⟩, hI.law, hI.ord⟩, hI.2.1, hI.mod⟩
  have hd := hI.f.day
  exact ⟨rfl, by show 0 ≤ σ 0 4 + n; have := hd.2.1; omega, by show σ 0 4 + n ≤ 9999; omega⟩
theorem ci_next (n : Int)  : CI Inv mX11_next mX12_next [gI n] := CI_reg (fun σ => 0 ≤ n ∧ n ≤ 9999 ∧ σ 0 4 + n ≤ 9999) (fun σ => σ 0 4 + n) (fun σ => -1) (fun σ => gUp σ 0 4 ((σ 0 4) + n)) (fun σ => σ) (fun σ => gUp (gUp (gUp σ 0 4 ((σ 0 4) + n)) 133 0 0) 133 3 ((σ 0 4) + n)) (fun σ => gUp σ 133 0 0) (fun σ hI => x_next hI n ) (fun σ hI hP => m_nextT hI n  hP) (fun σ hI hP => m_nextF hI n  hP) (fun σ hI hP => i_next hI n  hP) (fun σ hI _ => hI.thrown)
theorem x_end {σ : gH} (hI : Inv σ) (n : Int)  : Mt mX11_end 30 [gR 0, gI n] σ (fun v σ' => ((0 ≤ n ∧ n ≤ σ 0 1) ∧ v = gI (1) ∧ σ' = gUp σ 0 1 n) ∨ (¬ (0 ≤ n ∧ n ≤ σ 0 1) ∧ v = gI (0) ∧ σ' = σ)) := by
  refine Mt.walk (ls := [gR 0, gI n]) pn_X11 rfl (fun _ _ h => by rcases h with h | h <;> exact absurd h.2.1 (by intro h; cases h)) (Nat.le_of_ble_eq_true rfl) rfl ?_
  have hday := hI.f.day
  unfold S_day at hday
  have hp := hI.f.hp
  have hp0 := hI.f.party.2.1
  have hT := hI.f.tape.2.1
  have hT2 := hI.f.tape.2.2.1
  refine w_iload_n (pc' := 1) (i := 1) (by rfl) (by rfl) dX11_end_0 rfl ?_
  refine w_if_lt (pc' := 4) (t := 12) dX11_end_1 rfl rfl (fun c_1 => ?_) (fun c_1 => ?_)
  · skip
    refine w_iconst (pc' := 13) (by decide) dX11_end_12 rfl ?_
    refine w_zreturn rfl (.inl rfl) dX11_end_13 ?_
    first
      | (exfalso; omega)
      | exact .inl ⟨by omega, (by first | rfl | exact congrArg gI (by omega) | exact congrArg gI (gb_t (by omega)) | exact congrArg gI (gb_f (by omega)) | (refine congrArg gI ?_; (repeat' split) <;> omega)), rfl⟩
      | exact .inr ⟨by omega, (by first | rfl | exact congrArg gI (by omega) | exact congrArg gI (gb_t (by omega)) | exact congrArg gI (gb_f (by omega)) | (refine congrArg gI ?_; (repeat' split) <;> omega)), rfl⟩
  · skip
    refine w_iload_n (pc' := 5) (i := 1) (by rfl) (by rfl) dX11_end_4 rfl ?_
    refine w_aload_n (pc' := 6) (i := 0) (by rfl) (by rfl) dX11_end_5 rfl ?_
    refine v_getI (pc' := 9) (ji := 1) rfl fg_X11_89 kd_0 dX11_end_6 rfl ?_
    refine w_icmp_le (pc' := 12) (t := 14) dX11_end_9 rfl rfl (fun c_9 => ?_) (fun c_9 => ?_)
    · skip
      refine w_aload_n (pc' := 15) (i := 0) (by rfl) (by rfl) dX11_end_14 rfl ?_
      refine w_iload_n (pc' := 16) (i := 1) (by rfl) (by rfl) dX11_end_15 rfl ?_
      refine v_putI (pc' := 19) (ji := 1) rfl fp_X11_89 kd_0 sf_X11_1 dX11_end_16 rfl ?_
      refine w_iconst (pc' := 20) (by decide) dX11_end_19 rfl ?_
      refine w_zreturn rfl (.inr rfl) dX11_end_20 ?_
      first
        | (exfalso; omega)
        | exact .inl ⟨by omega, (by first | rfl | exact congrArg gI (by omega) | exact congrArg gI (gb_t (by omega)) | exact congrArg gI (gb_f (by omega)) | (refine congrArg gI ?_; (repeat' split) <;> omega)), rfl⟩
        | exact .inr ⟨by omega, (by first | rfl | exact congrArg gI (by omega) | exact congrArg gI (gb_t (by omega)) | exact congrArg gI (gb_f (by omega)) | (refine congrArg gI ?_; (repeat' split) <;> omega)), rfl⟩
    · skip
      refine w_iconst (pc' := 13) (by decide) dX11_end_12 rfl ?_
      refine w_zreturn rfl (.inl rfl) dX11_end_13 ?_
      first
        | (exfalso; omega)
        | exact .inl ⟨by omega, (by first | rfl | exact congrArg gI (by omega) | exact congrArg gI (gb_t (by omega)) | exact congrArg gI (gb_f (by omega)) | (refine congrArg gI ?_; (repeat' split) <;> omega)), rfl⟩
        | exact .inr ⟨by omega, (by first | rfl | exact congrArg gI (by omega) | exact congrArg gI (gb_t (by omega)) | exact congrArg gI (gb_f (by omega)) | (refine congrArg gI ?_; (repeat' split) <;> omega)), rfl⟩
theorem m_endT {σ : gH} (hI : Inv σ) (n : Int)  (hP : 0 ≤ n ∧ n ≤ σ 0 1) : Mt mX12_end 30 [gR 133, gI n] (gUp σ 0 1 n) (rE (gI (1)) (gUp (gUp (gUp σ 0 1 n) 133 0 0) 133 2 n)) := by
  refine Mt.walk (ls := [gR 133, gI n]) pn_X12 rfl (fun _ _ h => by cases h.1) (Nat.le_of_ble_eq_true rfl) rfl ?_
  have hday := hI.f.day
  unfold S_day at hday
  have hp := hI.f.hp
  have hp0 := hI.f.party.2.1
  have hT := hI.f.tape.2.1
  have hT2 := hI.f.tape.2.2.1
  refine w_aload_n (pc' := 1) (i := 0) (by rfl) (by rfl) dX12_end_0 rfl ?_
  refine w_iconst (pc' := 2) (by decide) dX12_end_1 rfl ?_
  refine v_putI (pc' := 5) (ji := 0) rfl fp_X12_244 kd_133 sf_X12_0 dX12_end_2 rfl ?_
  refine w_iload_n (pc' := 6) (i := 1) (by rfl) (by rfl) dX12_end_5 rfl ?_
  refine w_if_lt (pc' := 9) (t := 17) dX12_end_6 rfl rfl (fun c_6 => ?_) (fun c_6 => ?_)
  · skip
    refine w_iconst (pc' := 18) (by decide) dX12_end_17 rfl ?_
    refine w_zreturn rfl (.inl rfl) dX12_end_18 ?_
    first
      | (exfalso; omega)
      | exact ⟨(by first | rfl | exact congrArg gI (by omega) | exact congrArg gI (gb_t (by omega)) | exact congrArg gI (gb_f (by omega)) | (refine congrArg gI ?_; (repeat' split) <;> omega)), rfl⟩
  · skip
    refine w_iload_n (pc' := 10) (i := 1) (by rfl) (by rfl) dX12_end_9 rfl ?_
    refine w_aload_n (pc' := 11) (i := 0) (by rfl) (by rfl) dX12_end_10 rfl ?_
    refine v_getI (pc' := 14) (ji := 2) rfl fg_X12_247 kd_133 dX12_end_11 rfl ?_
    show Wp _ _ _ _ _ _ [gI (σ 133 2), gI n]
    rw [hI.f2]
    refine w_icmp_le (pc' := 17) (t := 19) dX12_end_14 rfl rfl (fun c_14 => ?_) (fun c_14 => ?_)
    · skip
      refine w_aload_n (pc' := 20) (i := 0) (by rfl) (by rfl) dX12_end_19 rfl ?_
      refine w_iload_n (pc' := 21) (i := 1) (by rfl) (by rfl) dX12_end_20 rfl ?_
      refine v_putI (pc' := 24) (ji := 2) rfl fp_X12_247 kd_133 sf_X12_2 dX12_end_21 rfl ?_
      refine w_iconst (pc' := 25) (by decide) dX12_end_24 rfl ?_
      refine w_zreturn rfl (.inr rfl) dX12_end_25 ?_
      first
        | (exfalso; omega)
        | exact ⟨(by first | rfl | exact congrArg gI (by omega) | exact congrArg gI (gb_t (by omega)) | exact congrArg gI (gb_f (by omega)) | (refine congrArg gI ?_; (repeat' split) <;> omega)), rfl⟩
    · skip
      refine w_iconst (pc' := 18) (by decide) dX12_end_17 rfl ?_
      refine w_zreturn rfl (.inl rfl) dX12_end_18 ?_
      first
        | (exfalso; omega)
        | exact ⟨(by first | rfl | exact congrArg gI (by omega) | exact congrArg gI (gb_t (by omega)) | exact congrArg gI (gb_f (by omega)) | (refine congrArg gI ?_; (repeat' split) <;> omega)), rfl⟩
theorem m_endF {σ : gH} (hI : Inv σ) (n : Int)  (hP : ¬ (0 ≤ n ∧ n ≤ σ 0 1)) : Mt mX12_end 30 [gR 133, gI n] σ (rE (gI (0)) (gUp σ 133 0 0)) := by
  refine Mt.walk (ls := [gR 133, gI n]) pn_X12 rfl (fun _ _ h => by cases h.1) (Nat.le_of_ble_eq_true rfl) rfl ?_
  have hday := hI.f.day
  unfold S_day at hday
  have hp := hI.f.hp
  have hp0 := hI.f.party.2.1
  have hT := hI.f.tape.2.1
  have hT2 := hI.f.tape.2.2.1
  refine w_aload_n (pc' := 1) (i := 0) (by rfl) (by rfl) dX12_end_0 rfl ?_
  refine w_iconst (pc' := 2) (by decide) dX12_end_1 rfl ?_
  refine v_putI (pc' := 5) (ji := 0) rfl fp_X12_244 kd_133 sf_X12_0 dX12_end_2 rfl ?_
  refine w_iload_n (pc' := 6) (i := 1) (by rfl) (by rfl) dX12_end_5 rfl ?_
  refine w_if_lt (pc' := 9) (t := 17) dX12_end_6 rfl rfl (fun c_6 => ?_) (fun c_6 => ?_)
  · skip
    refine w_iconst (pc' := 18) (by decide) dX12_end_17 rfl ?_
    refine w_zreturn rfl (.inl rfl) dX12_end_18 ?_
    first
      | (exfalso; omega)
      | exact ⟨(by first | rfl | exact congrArg gI (by omega) | exact congrArg gI (gb_t (by omega)) | exact congrArg gI (gb_f (by omega)) | (refine congrArg gI ?_; (repeat' split) <;> omega)), rfl⟩
  · skip
    refine w_iload_n (pc' := 10) (i := 1) (by rfl) (by rfl) dX12_end_9 rfl ?_
    refine w_aload_n (pc' := 11) (i := 0) (by rfl) (by rfl) dX12_end_10 rfl ?_
    refine v_getI (pc' := 14) (ji := 2) rfl fg_X12_247 kd_133 dX12_end_11 rfl ?_
    show Wp _ _ _ _ _ _ [gI (σ 133 2), gI n]
    rw [hI.f2]
    refine w_icmp_le (pc' := 17) (t := 19) dX12_end_14 rfl rfl (fun c_14 => ?_) (fun c_14 => ?_)
    · skip
      refine w_aload_n (pc' := 20) (i := 0) (by rfl) (by rfl) dX12_end_19 rfl ?_
      refine w_iload_n (pc' := 21) (i := 1) (by rfl) (by rfl) dX12_end_20 rfl ?_
      refine v_putI (pc' := 24) (ji := 2) rfl fp_X12_247 kd_133 sf_X12_2 dX12_end_21 rfl ?_
      refine w_iconst (pc' := 25) (by decide) dX12_end_24 rfl ?_
      refine w_zreturn rfl (.inr rfl) dX12_end_25 ?_
      first
        | (exfalso; omega)
        | exact ⟨(by first | rfl | exact congrArg gI (by omega) | exact congrArg gI (gb_t (by omega)) | exact congrArg gI (gb_f (by omega)) | (refine congrArg gI ?_; (repeat' split) <;> omega)), rfl⟩
    · skip
      refine w_iconst (pc' := 18) (by decide) dX12_end_17 rfl ?_
      refine w_zreturn rfl (.inl rfl) dX12_end_18 ?_
      first
        | (exfalso; omega)
        | exact ⟨(by first | rfl | exact congrArg gI (by omega) | exact congrArg gI (gb_t (by omega)) | exact congrArg gI (gb_f (by omega)) | (refine congrArg gI ?_; (repeat' split) <;> omega)), rfl⟩
theorem i_end {σ : gH} (hI : Inv σ) (n : Int)  (hP : 0 ≤ n ∧ n ≤ σ 0 1) : Inv (gUp (gUp (gUp σ 0 1 n) 133 0 0) 133 2 n) := by
  refine ⟨⟨⟨hI.f.day, ?_, hI.f.outs, hI.f.party, hI.f.own, hI.f.kin, hI.f.post, hI.f.gift, hI.f.worth, hI.f.mem, hI.f.mat, hI.f.vote, hI.f.ent⟩, hI.law, hI.ord⟩, hI.2.1, hI.mod⟩
  have ht := hI.f.tape
  exact ⟨rfl, hP.1, by show n ≤ 540; have := ht.2.2.1; omega, fun i a b => ht.2.2.2 i a (by have b2 : i < n := b; omega)⟩
theorem ci_end (n : Int)  : CI Inv mX11_end mX12_end [gI n] := CI_reg (fun σ => 0 ≤ n ∧ n ≤ σ 0 1) (fun σ => 1) (fun σ => 0) (fun σ => gUp σ 0 1 n) (fun σ => σ) (fun σ => gUp (gUp (gUp σ 0 1 n) 133 0 0) 133 2 n) (fun σ => gUp σ 133 0 0) (fun σ hI => x_end hI n ) (fun σ hI hP => m_endT hI n  hP) (fun σ hI hP => m_endF hI n  hP) (fun σ hI hP => i_end hI n  hP) (fun σ hI _ => hI.thrown)
theorem x_kin {σ : gH} (hI : Inv σ) (a b f u : Int)  : Mt mX11_kin 30 [gR 0, gI a, gI b, gI f, gI u] σ (fun v σ' => (((((0 ≤ a ∧ a < σ 3 2) ∧ σ 4 a = 0) ∧ ((0 ≤ b ∧ b < σ 3 2) ∧ σ 4 b = 0) ∧ a ≠ b) ∧ ((0 ≤ f ∧ f ≤ 9999) ∧ (u = -1 ∨ (0 ≤ u ∧ u ≤ 9999) ∧ f + 1 ≤ u)) ∧ σ 6 6 < 100) ∧ v = gI (σ 6 6) ∧ σ' = gUp (gUp (gUp (gUp (gUp (gUp (gUp σ 7 (σ 6 6) a) 8 (σ 6 6) b) 9 (σ 6 6) 0) 10 (σ 6 6) f) 11 (σ 6 6) u) 12 (σ 6 6) (σ 0 4)) 6 6 (σ 6 6 + 1)) ∨ (¬ ((((0 ≤ a ∧ a < σ 3 2) ∧ σ 4 a = 0) ∧ ((0 ≤ b ∧ b < σ 3 2) ∧ σ 4 b = 0) ∧ a ≠ b) ∧ ((0 ≤ f ∧ f ≤ 9999) ∧ (u = -1 ∨ (0 ≤ u ∧ u ≤ 9999) ∧ f + 1 ≤ u)) ∧ σ 6 6 < 100) ∧ v = gI (if ((0 ≤ a ∧ a < σ 3 2) ∧ σ 4 a = 0) ∧ ((0 ≤ b ∧ b < σ 3 2) ∧ σ 4 b = 0) ∧ a ≠ b then if ((0 ≤ f ∧ f ≤ 9999) ∧ (u = -1 ∨ (0 ≤ u ∧ u ≤ 9999) ∧ f + 1 ≤ u)) then -5 else -3 else -2) ∧ σ' = σ)) := by
  refine Mt.walk (ls := [gR 0, gI a, gI b, gI f, gI u]) pn_X11 rfl (fun _ _ h => by rcases h with h | h <;> exact absurd h.2.1 (by intro h; cases h)) (Nat.le_of_ble_eq_true rfl) rfl ?_
  have hday := hI.f.day
  unfold S_day at hday
  have hp := hI.f.hp
  have hp0 := hI.f.party.2.1
  have hT := hI.f.tape.2.1
  have hT2 := hI.f.tape.2.2.1
  have f6 := hI.f6
  have hkn := hI.f.kin.2.1
  have hkn2 := hI.f.kin.2.2.1
  have hpo := hI.f.post.2.1
  have hpo2 := hI.f.post.2.2.1
  have e135a : 0 ≤ a → a < σ 3 2 → σ 135 a = σ 4 a := fun h0 h1 => hI.e135 h0 h1
  have s135a : 0 ≤ a → a < σ 3 2 → 0 ≤ σ 4 a := fun h0 h1 => (hI.f.party.2.2.2 a h0 h1).2.1
  have e135b : 0 ≤ b → b < σ 3 2 → σ 135 b = σ 4 b := fun h0 h1 => hI.e135 h0 h1
  have s135b : 0 ≤ b → b < σ 3 2 → 0 ≤ σ 4 b := fun h0 h1 => (hI.f.party.2.2.2 b h0 h1).2.1
  refine w_aload_n (pc' := 1) (i := 0) (by rfl) (by rfl) dX11_kin_0 rfl ?_
  refine w_getS (pc' := 4) (q := 3) fg_X11_21 kd_0 sf_X11_5 gr_0_5 dX11_kin_1 rfl ?_
  refine w_iload_n (pc' := 5) (i := 1) (by rfl) (by rfl) dX11_kin_4 rfl ?_
  refine v_callVE (pc' := 8) (st' := [gI (gb ((0 ≤ a ∧ a < (σ 3 2)) ∧ (σ 4 a) = 0))]) (d' := 1) (av := [gI a]) mi_mX8_isPerson lk_X11_132 rfl ci_X8 kd_3 rfl (Nat.le_of_ble_eq_true rfl) (Nat.le_of_ble_eq_true rfl) dX11_kin_5 rfl rfl (pa_isPerson σ (by first | exact hp | omega) a) ?_
  refine v_if_eqB (pc' := 11) (t := 27) dX11_kin_8 rfl rfl (fun c_8 => ?_) (fun c_8 => ?_)
  · skip
    refine w_bipush (pc' := 29) (by decide) (by decide) dX11_kin_27 rfl ?_
    refine v_ireturn rfl dX11_kin_29 ?_
    first
      | (exfalso; omega)
      | exact .inl ⟨by omega, (by first | rfl | exact congrArg gI (by omega) | exact congrArg gI (gb_t (by omega)) | exact congrArg gI (gb_f (by omega)) | (refine congrArg gI ?_; (repeat' split) <;> omega)), rfl⟩
      | exact .inr ⟨by omega, (by first | rfl | exact congrArg gI (by omega) | exact congrArg gI (gb_t (by omega)) | exact congrArg gI (gb_f (by omega)) | (refine congrArg gI ?_; (repeat' split) <;> omega)), rfl⟩
  · skip
    refine w_aload_n (pc' := 12) (i := 0) (by rfl) (by rfl) dX11_kin_11 rfl ?_
    refine w_getS (pc' := 15) (q := 3) fg_X11_21 kd_0 sf_X11_5 gr_0_5 dX11_kin_12 rfl ?_
    refine w_iload_n (pc' := 16) (i := 2) (by rfl) (by rfl) dX11_kin_15 rfl ?_
    refine v_callVE (pc' := 19) (st' := [gI (gb ((0 ≤ b ∧ b < (σ 3 2)) ∧ (σ 4 b) = 0))]) (d' := 1) (av := [gI b]) mi_mX8_isPerson lk_X11_132 rfl ci_X8 kd_3 rfl (Nat.le_of_ble_eq_true rfl) (Nat.le_of_ble_eq_true rfl) dX11_kin_16 rfl rfl (pa_isPerson σ (by first | exact hp | omega) b) ?_
    refine v_if_eqB (pc' := 22) (t := 27) dX11_kin_19 rfl rfl (fun c_19 => ?_) (fun c_19 => ?_)
    · skip
      refine w_bipush (pc' := 29) (by decide) (by decide) dX11_kin_27 rfl ?_
      refine v_ireturn rfl dX11_kin_29 ?_
      first
        | (exfalso; omega)
        | exact .inl ⟨by omega, (by first | rfl | exact congrArg gI (by omega) | exact congrArg gI (gb_t (by omega)) | exact congrArg gI (gb_f (by omega)) | (refine congrArg gI ?_; (repeat' split) <;> omega)), rfl⟩
        | exact .inr ⟨by omega, (by first | rfl | exact congrArg gI (by omega) | exact congrArg gI (gb_t (by omega)) | exact congrArg gI (gb_f (by omega)) | (refine congrArg gI ?_; (repeat' split) <;> omega)), rfl⟩
    · skip
      refine w_iload_n (pc' := 23) (i := 1) (by rfl) (by rfl) dX11_kin_22 rfl ?_
      refine w_iload_n (pc' := 24) (i := 2) (by rfl) (by rfl) dX11_kin_23 rfl ?_
      refine w_icmp_ne (pc' := 27) (t := 30) dX11_kin_24 rfl rfl (fun c_24 => ?_) (fun c_24 => ?_)
      · skip
        refine w_iload_n (pc' := 31) (i := 3) (by rfl) (by rfl) dX11_kin_30 rfl ?_
        refine w_iload (pc' := 33) (by rfl) dX11_kin_31 rfl ?_
        refine w_iconst (pc' := 34) (by decide) dX11_kin_33 rfl ?_
        refine v_callSE (pc' := 37) (st' := [gI (gb ((0 ≤ f ∧ f ≤ 9999) ∧ (u = -1 ∨ (0 ≤ u ∧ u ≤ 9999) ∧ f + 1 ≤ u)))]) (d' := 1) (av := [gI f, gI u, gI 1]) ms_mX11_isSpan st_mX11_isSpan lk_X11_118 rfl rfl (Nat.le_of_ble_eq_true rfl) (Nat.le_of_ble_eq_true rfl) dX11_kin_34 rfl rfl (cl_isSpan σ f u 1 (by decide)) ?_
        refine v_if_neB (pc' := 40) (t := 43) dX11_kin_37 rfl rfl (fun c_37 => ?_) (fun c_37 => ?_)
        · skip
          refine w_aload_n (pc' := 44) (i := 0) (by rfl) (by rfl) dX11_kin_43 rfl ?_
          refine w_getS (pc' := 47) (q := 3) fg_X11_21 kd_0 sf_X11_5 gr_0_5 dX11_kin_44 rfl ?_
          refine w_iload_n (pc' := 48) (i := 1) (by rfl) (by rfl) dX11_kin_47 rfl ?_
          refine w_iload_n (pc' := 49) (i := 2) (by rfl) (by rfl) dX11_kin_48 rfl ?_
          refine w_iload_n (pc' := 50) (i := 3) (by rfl) (by rfl) dX11_kin_49 rfl ?_
          refine w_iload (pc' := 52) (by rfl) dX11_kin_50 rfl ?_
          refine w_aload_n (pc' := 53) (i := 0) (by rfl) (by rfl) dX11_kin_52 rfl ?_
          refine v_getI (pc' := 56) (ji := 4) rfl fg_X11_96 kd_0 dX11_kin_53 rfl ?_
          by_cases c_56 : σ 6 6 < 100
          · skip
            refine v_callVE (pc' := 59) (st' := [gI (σ 6 6)]) (d' := 1) (av := [gI a, gI b, gI f, gI u, gI (σ 0 4)]) mi_mX8_addKin lk_X11_135 rfl ci_X8 kd_3 rfl (Nat.le_of_ble_eq_true rfl) (Nat.le_of_ble_eq_true rfl) dX11_kin_56 rfl rfl (pa_addKinT σ a b f u (σ 0 4) (show 0 ≤ σ 6 6 ∧ σ 6 6 < 100 by omega)) ?_
            show Wp _ _ _ (gUp (gUp (gUp (gUp (gUp (gUp (gUp σ 7 (σ 6 6) a) 8 (σ 6 6) b) 9 (σ 6 6) 0) 10 (σ 6 6) f) 11 (σ 6 6) u) 12 (σ 6 6) (σ 0 4)) 6 6 (σ 6 6 + 1)) _ _ [gI (σ 6 6)]
            refine v_ireturn rfl dX11_kin_59 ?_
            first
              | (exfalso; omega)
              | exact .inl ⟨by omega, (by first | rfl | exact congrArg gI (by omega) | exact congrArg gI (gb_t (by omega)) | exact congrArg gI (gb_f (by omega)) | (refine congrArg gI ?_; (repeat' split) <;> omega)), rfl⟩
              | exact .inr ⟨by omega, (by first | rfl | exact congrArg gI (by omega) | exact congrArg gI (gb_t (by omega)) | exact congrArg gI (gb_f (by omega)) | (refine congrArg gI ?_; (repeat' split) <;> omega)), rfl⟩
          · skip
            refine v_callVE (pc' := 59) (st' := [gI (-5)]) (d' := 1) (av := [gI a, gI b, gI f, gI u, gI (σ 0 4)]) mi_mX8_addKin lk_X11_135 rfl ci_X8 kd_3 rfl (Nat.le_of_ble_eq_true rfl) (Nat.le_of_ble_eq_true rfl) dX11_kin_56 rfl rfl (pa_addKinF σ a b f u (σ 0 4) (show ¬ σ 6 6 < 100 by omega)) ?_
            show Wp _ _ _ σ _ _ [gI (-5)]
            refine v_ireturn rfl dX11_kin_59 ?_
            first
              | (exfalso; omega)
              | exact .inl ⟨by omega, (by first | rfl | exact congrArg gI (by omega) | exact congrArg gI (gb_t (by omega)) | exact congrArg gI (gb_f (by omega)) | (refine congrArg gI ?_; (repeat' split) <;> omega)), rfl⟩
              | exact .inr ⟨by omega, (by first | rfl | exact congrArg gI (by omega) | exact congrArg gI (gb_t (by omega)) | exact congrArg gI (gb_f (by omega)) | (refine congrArg gI ?_; (repeat' split) <;> omega)), rfl⟩
        · skip
          refine w_bipush (pc' := 42) (by decide) (by decide) dX11_kin_40 rfl ?_
          refine v_ireturn rfl dX11_kin_42 ?_
          first
            | (exfalso; omega)
            | exact .inl ⟨by omega, (by first | rfl | exact congrArg gI (by omega) | exact congrArg gI (gb_t (by omega)) | exact congrArg gI (gb_f (by omega)) | (refine congrArg gI ?_; (repeat' split) <;> omega)), rfl⟩
            | exact .inr ⟨by omega, (by first | rfl | exact congrArg gI (by omega) | exact congrArg gI (gb_t (by omega)) | exact congrArg gI (gb_f (by omega)) | (refine congrArg gI ?_; (repeat' split) <;> omega)), rfl⟩
      · skip
        refine w_bipush (pc' := 29) (by decide) (by decide) dX11_kin_27 rfl ?_
        refine v_ireturn rfl dX11_kin_29 ?_
        first
          | (exfalso; omega)
          | exact .inl ⟨by omega, (by first | rfl | exact congrArg gI (by omega) | exact congrArg gI (gb_t (by omega)) | exact congrArg gI (gb_f (by omega)) | (refine congrArg gI ?_; (repeat' split) <;> omega)), rfl⟩
          | exact .inr ⟨by omega, (by first | rfl | exact congrArg gI (by omega) | exact congrArg gI (gb_t (by omega)) | exact congrArg gI (gb_f (by omega)) | (refine congrArg gI ?_; (repeat' split) <;> omega)), rfl⟩
theorem m_kinT {σ : gH} (hI : Inv σ) (a b f u : Int)  (hP : (((0 ≤ a ∧ a < σ 3 2) ∧ σ 4 a = 0) ∧ ((0 ≤ b ∧ b < σ 3 2) ∧ σ 4 b = 0) ∧ a ≠ b) ∧ ((0 ≤ f ∧ f ≤ 9999) ∧ (u = -1 ∨ (0 ≤ u ∧ u ≤ 9999) ∧ f + 1 ≤ u)) ∧ σ 6 6 < 100) : Mt mX12_kin 30 [gR 133, gI a, gI b, gI f, gI u] (gUp (gUp (gUp (gUp (gUp (gUp (gUp σ 7 (σ 6 6) a) 8 (σ 6 6) b) 9 (σ 6 6) 0) 10 (σ 6 6) f) 11 (σ 6 6) u) 12 (σ 6 6) (σ 0 4)) 6 6 (σ 6 6 + 1)) (rE (gI (σ 6 6)) (gUp (gUp (gUp (gUp (gUp (gUp (gUp (gUp (gUp (gUp (gUp (gUp (gUp (gUp σ 7 (σ 6 6) a) 8 (σ 6 6) b) 9 (σ 6 6) 0) 10 (σ 6 6) f) 11 (σ 6 6) u) 12 (σ 6 6) (σ 0 4)) 6 6 (σ 6 6 + 1)) 133 0 0) 143 (σ 6 6) a) 144 (σ 6 6) b) 145 (σ 6 6) f) 146 (σ 6 6) (ev u)) 147 (σ 6 6) (σ 0 4)) 133 25 ((σ 6 6) + 1))) := by
  refine Mt.walk (ls := [gR 133, gI a, gI b, gI f, gI u]) pn_X12 rfl (fun _ _ h => by cases h.1) (Nat.le_of_ble_eq_true rfl) rfl ?_
  have hday := hI.f.day
  unfold S_day at hday
  have hp := hI.f.hp
  have hp0 := hI.f.party.2.1
  have hT := hI.f.tape.2.1
  have hT2 := hI.f.tape.2.2.1
  have f6 := hI.f6
  have hkn := hI.f.kin.2.1
  have hkn2 := hI.f.kin.2.2.1
  have hpo := hI.f.post.2.1
  have hpo2 := hI.f.post.2.2.1
  have e135a : 0 ≤ a → a < σ 3 2 → σ 135 a = σ 4 a := fun h0 h1 => hI.e135 h0 h1
  have s135a : 0 ≤ a → a < σ 3 2 → 0 ≤ σ 4 a := fun h0 h1 => (hI.f.party.2.2.2 a h0 h1).2.1
  have e135b : 0 ≤ b → b < σ 3 2 → σ 135 b = σ 4 b := fun h0 h1 => hI.e135 h0 h1
  have s135b : 0 ≤ b → b < σ 3 2 → 0 ≤ σ 4 b := fun h0 h1 => (hI.f.party.2.2.2 b h0 h1).2.1
  refine w_aload_n (pc' := 1) (i := 0) (by rfl) (by rfl) dX12_kin_0 rfl ?_
  refine w_iconst (pc' := 2) (by decide) dX12_kin_1 rfl ?_
  refine v_putI (pc' := 5) (ji := 0) rfl fp_X12_244 kd_133 sf_X12_0 dX12_kin_2 rfl ?_
  refine w_aload_n (pc' := 6) (i := 0) (by rfl) (by rfl) dX12_kin_5 rfl ?_
  refine w_iload_n (pc' := 7) (i := 1) (by rfl) (by rfl) dX12_kin_6 rfl ?_
  refine v_callVE (pc' := 10) (st' := [gI (gb ((0 ≤ a ∧ a < (σ 133 6)) ∧ (σ 135 a) = 0))]) (d' := 1) (av := [gI a]) mi_mX12_isPerson lk_X12_299 rfl ci_X12 kd_133 rfl (Nat.le_of_ble_eq_true rfl) (Nat.le_of_ble_eq_true rfl) dX12_kin_7 rfl rfl (mo_isPerson (gUp (gUp (gUp (gUp (gUp (gUp (gUp (gUp σ 7 (σ 6 6) a) 8 (σ 6 6) b) 9 (σ 6 6) 0) 10 (σ 6 6) f) 11 (σ 6 6) u) 12 (σ 6 6) (σ 0 4)) 6 6 (σ 6 6 + 1)) 133 0 0) (show σ 133 6 ≤ 60 by omega) a) ?_
  refine v_if_eqB (pc' := 13) (t := 26) dX12_kin_10 rfl rfl (fun c_10 => ?_) (fun c_10 => ?_)
  · skip
    refine w_bipush (pc' := 28) (by decide) (by decide) dX12_kin_26 rfl ?_
    refine v_ireturn rfl dX12_kin_28 ?_
    first
      | (exfalso; omega)
      | exact ⟨(by first | rfl | exact congrArg gI (by omega) | exact congrArg gI (gb_t (by omega)) | exact congrArg gI (gb_f (by omega)) | (refine congrArg gI ?_; (repeat' split) <;> omega)), rfl⟩
  · skip
    refine w_aload_n (pc' := 14) (i := 0) (by rfl) (by rfl) dX12_kin_13 rfl ?_
    refine w_iload_n (pc' := 15) (i := 2) (by rfl) (by rfl) dX12_kin_14 rfl ?_
    refine v_callVE (pc' := 18) (st' := [gI (gb ((0 ≤ b ∧ b < (σ 133 6)) ∧ (σ 135 b) = 0))]) (d' := 1) (av := [gI b]) mi_mX12_isPerson lk_X12_299 rfl ci_X12 kd_133 rfl (Nat.le_of_ble_eq_true rfl) (Nat.le_of_ble_eq_true rfl) dX12_kin_15 rfl rfl (mo_isPerson (gUp (gUp (gUp (gUp (gUp (gUp (gUp (gUp σ 7 (σ 6 6) a) 8 (σ 6 6) b) 9 (σ 6 6) 0) 10 (σ 6 6) f) 11 (σ 6 6) u) 12 (σ 6 6) (σ 0 4)) 6 6 (σ 6 6 + 1)) 133 0 0) (show σ 133 6 ≤ 60 by omega) b) ?_
    refine v_if_eqB (pc' := 21) (t := 26) dX12_kin_18 rfl rfl (fun c_18 => ?_) (fun c_18 => ?_)
    · skip
      refine w_bipush (pc' := 28) (by decide) (by decide) dX12_kin_26 rfl ?_
      refine v_ireturn rfl dX12_kin_28 ?_
      first
        | (exfalso; omega)
        | exact ⟨(by first | rfl | exact congrArg gI (by omega) | exact congrArg gI (gb_t (by omega)) | exact congrArg gI (gb_f (by omega)) | (refine congrArg gI ?_; (repeat' split) <;> omega)), rfl⟩
    · skip
      refine w_iload_n (pc' := 22) (i := 1) (by rfl) (by rfl) dX12_kin_21 rfl ?_
      refine w_iload_n (pc' := 23) (i := 2) (by rfl) (by rfl) dX12_kin_22 rfl ?_
      refine w_icmp_ne (pc' := 26) (t := 29) dX12_kin_23 rfl rfl (fun c_23 => ?_) (fun c_23 => ?_)
      · skip
        refine w_iload_n (pc' := 30) (i := 3) (by rfl) (by rfl) dX12_kin_29 rfl ?_
        refine w_iload (pc' := 32) (by rfl) dX12_kin_30 rfl ?_
        refine w_iconst (pc' := 33) (by decide) dX12_kin_32 rfl ?_
        refine v_callSE (pc' := 36) (st' := [gI (gb ((0 ≤ f ∧ f ≤ 9999) ∧ (u = -1 ∨ (0 ≤ u ∧ u ≤ 9999) ∧ f + 1 ≤ u)))]) (d' := 1) (av := [gI f, gI u, gI 1]) ms_mX12_areDays st_mX12_areDays lk_X12_292 rfl rfl (Nat.le_of_ble_eq_true rfl) (Nat.le_of_ble_eq_true rfl) dX12_kin_33 rfl rfl (mo_areDays (gUp (gUp (gUp (gUp (gUp (gUp (gUp (gUp σ 7 (σ 6 6) a) 8 (σ 6 6) b) 9 (σ 6 6) 0) 10 (σ 6 6) f) 11 (σ 6 6) u) 12 (σ 6 6) (σ 0 4)) 6 6 (σ 6 6 + 1)) 133 0 0) f u 1 (by decide)) ?_
        refine v_if_neB (pc' := 39) (t := 42) dX12_kin_36 rfl rfl (fun c_36 => ?_) (fun c_36 => ?_)
        · skip
          refine w_aload_n (pc' := 43) (i := 0) (by rfl) (by rfl) dX12_kin_42 rfl ?_
          refine v_getI (pc' := 46) (ji := 25) rfl fg_X12_302 kd_133 dX12_kin_43 rfl ?_
          show Wp _ _ _ _ _ _ [gI (σ 133 25)]
          rw [hI.f25]
          refine w_bipush (pc' := 48) (by decide) (by decide) dX12_kin_46 rfl ?_
          refine w_icmp_ne (pc' := 51) (t := 54) dX12_kin_48 rfl rfl (fun c_48 => ?_) (fun c_48 => ?_)
          · skip
            refine w_aload_n (pc' := 55) (i := 0) (by rfl) (by rfl) dX12_kin_54 rfl ?_
            refine w_getS (pc' := 58) (q := 143) fg_X12_42 kd_133 sf_X12_15 gr_133_15 dX12_kin_55 rfl ?_
            refine w_aload_n (pc' := 59) (i := 0) (by rfl) (by rfl) dX12_kin_58 rfl ?_
            refine v_getI (pc' := 62) (ji := 25) rfl fg_X12_302 kd_133 dX12_kin_59 rfl ?_
            show Wp _ _ _ _ _ _ [gI (σ 133 25), gR 143]
            rw [hI.f25]
            refine w_iload_n (pc' := 63) (i := 1) (by rfl) (by rfl) dX12_kin_62 rfl ?_
            refine w_iast (pc' := 64) kd_143 (by omega) (by omega) dX12_kin_63 rfl ?_
            refine w_aload_n (pc' := 65) (i := 0) (by rfl) (by rfl) dX12_kin_64 rfl ?_
            refine w_getS (pc' := 68) (q := 144) fg_X12_45 kd_133 sf_X12_16 gr_133_16 dX12_kin_65 rfl ?_
            refine w_aload_n (pc' := 69) (i := 0) (by rfl) (by rfl) dX12_kin_68 rfl ?_
            refine v_getI (pc' := 72) (ji := 25) rfl fg_X12_302 kd_133 dX12_kin_69 rfl ?_
            show Wp _ _ _ _ _ _ [gI (σ 133 25), gR 144]
            rw [hI.f25]
            refine w_iload_n (pc' := 73) (i := 2) (by rfl) (by rfl) dX12_kin_72 rfl ?_
            refine w_iast (pc' := 74) kd_144 (by omega) (by omega) dX12_kin_73 rfl ?_
            refine w_aload_n (pc' := 75) (i := 0) (by rfl) (by rfl) dX12_kin_74 rfl ?_
            refine w_getS (pc' := 78) (q := 145) fg_X12_48 kd_133 sf_X12_17 gr_133_17 dX12_kin_75 rfl ?_
            refine w_aload_n (pc' := 79) (i := 0) (by rfl) (by rfl) dX12_kin_78 rfl ?_
            refine v_getI (pc' := 82) (ji := 25) rfl fg_X12_302 kd_133 dX12_kin_79 rfl ?_
            show Wp _ _ _ _ _ _ [gI (σ 133 25), gR 145]
            rw [hI.f25]
            refine w_iload_n (pc' := 83) (i := 3) (by rfl) (by rfl) dX12_kin_82 rfl ?_
            refine w_iast (pc' := 84) kd_145 (by omega) (by omega) dX12_kin_83 rfl ?_
            refine w_aload_n (pc' := 85) (i := 0) (by rfl) (by rfl) dX12_kin_84 rfl ?_
            refine w_getS (pc' := 88) (q := 146) fg_X12_51 kd_133 sf_X12_18 gr_133_18 dX12_kin_85 rfl ?_
            refine w_aload_n (pc' := 89) (i := 0) (by rfl) (by rfl) dX12_kin_88 rfl ?_
            refine v_getI (pc' := 92) (ji := 25) rfl fg_X12_302 kd_133 dX12_kin_89 rfl ?_
            show Wp _ _ _ _ _ _ [gI (σ 133 25), gR 146]
            rw [hI.f25]
            refine w_iload (pc' := 94) (by rfl) dX12_kin_92 rfl ?_
            have hj_106 : Wp mX12_kin 30 (rE (gI (σ 6 6)) (gUp (gUp (gUp (gUp (gUp (gUp (gUp (gUp (gUp (gUp (gUp (gUp (gUp (gUp σ 7 (σ 6 6) a) 8 (σ 6 6) b) 9 (σ 6 6) 0) 10 (σ 6 6) f) 11 (σ 6 6) u) 12 (σ 6 6) (σ 0 4)) 6 6 (σ 6 6 + 1)) 133 0 0) 143 (σ 6 6) a) 144 (σ 6 6) b) 145 (σ 6 6) f) 146 (σ 6 6) (ev u)) 147 (σ 6 6) (σ 0 4)) 133 25 ((σ 6 6) + 1))) (gUp (gUp (gUp (gUp (gUp (gUp (gUp (gUp (gUp (gUp (gUp σ 7 (σ 6 6) a) 8 (σ 6 6) b) 9 (σ 6 6) 0) 10 (σ 6 6) f) 11 (σ 6 6) u) 12 (σ 6 6) (σ 0 4)) 6 6 (σ 6 6 + 1)) 133 0 0) 143 (σ 6 6) a) 144 (σ 6 6) b) 145 (σ 6 6) f) 106 [gR 133, gI a, gI b, gI f, gI u] [gI (ev u), gI (σ 6 6), gR 146] := by
              refine w_iast (pc' := 107) kd_146 (by omega) (by omega) dX12_kin_106 rfl ?_
              refine w_aload_n (pc' := 108) (i := 0) (by rfl) (by rfl) dX12_kin_107 rfl ?_
              refine w_getS (pc' := 111) (q := 147) fg_X12_54 kd_133 sf_X12_19 gr_133_19 dX12_kin_108 rfl ?_
              refine w_aload_n (pc' := 112) (i := 0) (by rfl) (by rfl) dX12_kin_111 rfl ?_
              refine v_getI (pc' := 115) (ji := 25) rfl fg_X12_302 kd_133 dX12_kin_112 rfl ?_
              show Wp _ _ _ _ _ _ [gI (σ 133 25), gR 147]
              rw [hI.f25]
              refine w_aload_n (pc' := 116) (i := 0) (by rfl) (by rfl) dX12_kin_115 rfl ?_
              refine v_getI (pc' := 119) (ji := 3) rfl fg_X12_258 kd_133 dX12_kin_116 rfl ?_
              show Wp _ _ _ _ _ _ [gI (σ 133 3), gI (σ 6 6), gR 147]
              rw [hI.f3]
              refine w_iast (pc' := 120) kd_147 (by omega) (by omega) dX12_kin_119 rfl ?_
              refine w_aload_n (pc' := 121) (i := 0) (by rfl) (by rfl) dX12_kin_120 rfl ?_
              refine w_dup (pc' := 122) dX12_kin_121 rfl ?_
              refine v_getI (pc' := 125) (ji := 25) rfl fg_X12_302 kd_133 dX12_kin_122 rfl ?_
              show Wp _ _ _ _ _ _ [gI (σ 133 25), gR 133]
              rw [hI.f25]
              refine w_iconst (pc' := 126) (by decide) dX12_kin_125 rfl ?_
              refine v_iadd (pc' := 127) (by omega) dX12_kin_126 rfl ?_
              refine v_putI (pc' := 130) (ji := 25) rfl fp_X12_302 kd_133 sf_X12_25 dX12_kin_127 rfl ?_
              refine w_aload_n (pc' := 131) (i := 0) (by rfl) (by rfl) dX12_kin_130 rfl ?_
              refine v_getI (pc' := 134) (ji := 25) rfl fg_X12_302 kd_133 dX12_kin_131 rfl ?_
              show Wp _ _ _ _ _ _ [gI ((σ 6 6) + 1)]
              refine w_iconst (pc' := 135) (by decide) dX12_kin_134 rfl ?_
              refine v_isub (pc' := 136) (by omega) dX12_kin_135 rfl ?_
              refine v_ireturn rfl dX12_kin_136 ?_
              first
                | (exfalso; omega)
                | exact ⟨(by first | rfl | exact congrArg gI (by omega) | exact congrArg gI (gb_t (by omega)) | exact congrArg gI (gb_f (by omega)) | (refine congrArg gI ?_; (repeat' split) <;> omega)), rfl⟩
            refine w_iconst (pc' := 95) (by decide) dX12_kin_94 rfl ?_
            refine w_icmp_ne (pc' := 98) (t := 104) dX12_kin_95 rfl rfl (fun c_95 => ?_) (fun c_95 => ?_)
            · skip
              refine w_iload (pc' := 106) (by rfl) dX12_kin_104 rfl ?_
              exact Wp.stI (by first | (exfalso; omega) | (unfold ev; first | (rw [if_pos (by omega)]) | (rw [if_neg (by omega)]))) hj_106
            · skip
              refine w_ldc_w (pc' := 101) (by decide) ct_X12_282 dX12_kin_98 rfl ?_
              refine w_goto (pc' := 106) dX12_kin_101 rfl ?_
              exact Wp.stI (by first | (exfalso; omega) | (unfold ev; first | (rw [if_pos (by omega)]) | (rw [if_neg (by omega)]))) hj_106
          · skip
            refine w_bipush (pc' := 53) (by decide) (by decide) dX12_kin_51 rfl ?_
            refine v_ireturn rfl dX12_kin_53 ?_
            first
              | (exfalso; omega)
              | exact ⟨(by first | rfl | exact congrArg gI (by omega) | exact congrArg gI (gb_t (by omega)) | exact congrArg gI (gb_f (by omega)) | (refine congrArg gI ?_; (repeat' split) <;> omega)), rfl⟩
        · skip
          refine w_bipush (pc' := 41) (by decide) (by decide) dX12_kin_39 rfl ?_
          refine v_ireturn rfl dX12_kin_41 ?_
          first
            | (exfalso; omega)
            | exact ⟨(by first | rfl | exact congrArg gI (by omega) | exact congrArg gI (gb_t (by omega)) | exact congrArg gI (gb_f (by omega)) | (refine congrArg gI ?_; (repeat' split) <;> omega)), rfl⟩
      · skip
        refine w_bipush (pc' := 28) (by decide) (by decide) dX12_kin_26 rfl ?_
        refine v_ireturn rfl dX12_kin_28 ?_
        first
          | (exfalso; omega)
          | exact ⟨(by first | rfl | exact congrArg gI (by omega) | exact congrArg gI (gb_t (by omega)) | exact congrArg gI (gb_f (by omega)) | (refine congrArg gI ?_; (repeat' split) <;> omega)), rfl⟩
theorem m_kinF {σ : gH} (hI : Inv σ) (a b f u : Int)  (hP : ¬ ((((0 ≤ a ∧ a < σ 3 2) ∧ σ 4 a = 0) ∧ ((0 ≤ b ∧ b < σ 3 2) ∧ σ 4 b = 0) ∧ a ≠ b) ∧ ((0 ≤ f ∧ f ≤ 9999) ∧ (u = -1 ∨ (0 ≤ u ∧ u ≤ 9999) ∧ f + 1 ≤ u)) ∧ σ 6 6 < 100)) : Mt mX12_kin 30 [gR 133, gI a, gI b, gI f, gI u] σ (rE (gI (if ((0 ≤ a ∧ a < σ 3 2) ∧ σ 4 a = 0) ∧ ((0 ≤ b ∧ b < σ 3 2) ∧ σ 4 b = 0) ∧ a ≠ b then if ((0 ≤ f ∧ f ≤ 9999) ∧ (u = -1 ∨ (0 ≤ u ∧ u ≤ 9999) ∧ f + 1 ≤ u)) then -5 else -3 else -2)) (gUp σ 133 0 0)) := by
  refine Mt.walk (ls := [gR 133, gI a, gI b, gI f, gI u]) pn_X12 rfl (fun _ _ h => by cases h.1) (Nat.le_of_ble_eq_true rfl) rfl ?_
  have hday := hI.f.day
  unfold S_day at hday
  have hp := hI.f.hp
  have hp0 := hI.f.party.2.1
  have hT := hI.f.tape.2.1
  have hT2 := hI.f.tape.2.2.1
  have f6 := hI.f6
  have hkn := hI.f.kin.2.1
  have hkn2 := hI.f.kin.2.2.1
  have hpo := hI.f.post.2.1
  have hpo2 := hI.f.post.2.2.1
  have e135a : 0 ≤ a → a < σ 3 2 → σ 135 a = σ 4 a := fun h0 h1 => hI.e135 h0 h1
  have s135a : 0 ≤ a → a < σ 3 2 → 0 ≤ σ 4 a := fun h0 h1 => (hI.f.party.2.2.2 a h0 h1).2.1
  have e135b : 0 ≤ b → b < σ 3 2 → σ 135 b = σ 4 b := fun h0 h1 => hI.e135 h0 h1
  have s135b : 0 ≤ b → b < σ 3 2 → 0 ≤ σ 4 b := fun h0 h1 => (hI.f.party.2.2.2 b h0 h1).2.1
  refine w_aload_n (pc' := 1) (i := 0) (by rfl) (by rfl) dX12_kin_0 rfl ?_
  refine w_iconst (pc' := 2) (by decide) dX12_kin_1 rfl ?_
  refine v_putI (pc' := 5) (ji := 0) rfl fp_X12_244 kd_133 sf_X12_0 dX12_kin_2 rfl ?_
  refine w_aload_n (pc' := 6) (i := 0) (by rfl) (by rfl) dX12_kin_5 rfl ?_
  refine w_iload_n (pc' := 7) (i := 1) (by rfl) (by rfl) dX12_kin_6 rfl ?_
  refine v_callVE (pc' := 10) (st' := [gI (gb ((0 ≤ a ∧ a < (σ 133 6)) ∧ (σ 135 a) = 0))]) (d' := 1) (av := [gI a]) mi_mX12_isPerson lk_X12_299 rfl ci_X12 kd_133 rfl (Nat.le_of_ble_eq_true rfl) (Nat.le_of_ble_eq_true rfl) dX12_kin_7 rfl rfl (mo_isPerson (gUp σ 133 0 0) (show σ 133 6 ≤ 60 by omega) a) ?_
  refine v_if_eqB (pc' := 13) (t := 26) dX12_kin_10 rfl rfl (fun c_10 => ?_) (fun c_10 => ?_)
  · skip
    refine w_bipush (pc' := 28) (by decide) (by decide) dX12_kin_26 rfl ?_
    refine v_ireturn rfl dX12_kin_28 ?_
    first
      | (exfalso; omega)
      | exact ⟨(by first | rfl | exact congrArg gI (by omega) | exact congrArg gI (gb_t (by omega)) | exact congrArg gI (gb_f (by omega)) | (refine congrArg gI ?_; (repeat' split) <;> omega)), rfl⟩
  · skip
    refine w_aload_n (pc' := 14) (i := 0) (by rfl) (by rfl) dX12_kin_13 rfl ?_
    refine w_iload_n (pc' := 15) (i := 2) (by rfl) (by rfl) dX12_kin_14 rfl ?_
    refine v_callVE (pc' := 18) (st' := [gI (gb ((0 ≤ b ∧ b < (σ 133 6)) ∧ (σ 135 b) = 0))]) (d' := 1) (av := [gI b]) mi_mX12_isPerson lk_X12_299 rfl ci_X12 kd_133 rfl (Nat.le_of_ble_eq_true rfl) (Nat.le_of_ble_eq_true rfl) dX12_kin_15 rfl rfl (mo_isPerson (gUp σ 133 0 0) (show σ 133 6 ≤ 60 by omega) b) ?_
    refine v_if_eqB (pc' := 21) (t := 26) dX12_kin_18 rfl rfl (fun c_18 => ?_) (fun c_18 => ?_)
    · skip
      refine w_bipush (pc' := 28) (by decide) (by decide) dX12_kin_26 rfl ?_
      refine v_ireturn rfl dX12_kin_28 ?_
      first
        | (exfalso; omega)
        | exact ⟨(by first | rfl | exact congrArg gI (by omega) | exact congrArg gI (gb_t (by omega)) | exact congrArg gI (gb_f (by omega)) | (refine congrArg gI ?_; (repeat' split) <;> omega)), rfl⟩
    · skip
      refine w_iload_n (pc' := 22) (i := 1) (by rfl) (by rfl) dX12_kin_21 rfl ?_
      refine w_iload_n (pc' := 23) (i := 2) (by rfl) (by rfl) dX12_kin_22 rfl ?_
      refine w_icmp_ne (pc' := 26) (t := 29) dX12_kin_23 rfl rfl (fun c_23 => ?_) (fun c_23 => ?_)
      · skip
        refine w_iload_n (pc' := 30) (i := 3) (by rfl) (by rfl) dX12_kin_29 rfl ?_
        refine w_iload (pc' := 32) (by rfl) dX12_kin_30 rfl ?_
        refine w_iconst (pc' := 33) (by decide) dX12_kin_32 rfl ?_
        refine v_callSE (pc' := 36) (st' := [gI (gb ((0 ≤ f ∧ f ≤ 9999) ∧ (u = -1 ∨ (0 ≤ u ∧ u ≤ 9999) ∧ f + 1 ≤ u)))]) (d' := 1) (av := [gI f, gI u, gI 1]) ms_mX12_areDays st_mX12_areDays lk_X12_292 rfl rfl (Nat.le_of_ble_eq_true rfl) (Nat.le_of_ble_eq_true rfl) dX12_kin_33 rfl rfl (mo_areDays (gUp σ 133 0 0) f u 1 (by decide)) ?_
        refine v_if_neB (pc' := 39) (t := 42) dX12_kin_36 rfl rfl (fun c_36 => ?_) (fun c_36 => ?_)
        · skip
          refine w_aload_n (pc' := 43) (i := 0) (by rfl) (by rfl) dX12_kin_42 rfl ?_
          refine v_getI (pc' := 46) (ji := 25) rfl fg_X12_302 kd_133 dX12_kin_43 rfl ?_
          show Wp _ _ _ _ _ _ [gI (σ 133 25)]
          rw [hI.f25]
          refine w_bipush (pc' := 48) (by decide) (by decide) dX12_kin_46 rfl ?_
          refine w_icmp_ne (pc' := 51) (t := 54) dX12_kin_48 rfl rfl (fun c_48 => ?_) (fun c_48 => ?_)
          · skip
            refine w_aload_n (pc' := 55) (i := 0) (by rfl) (by rfl) dX12_kin_54 rfl ?_
            refine w_getS (pc' := 58) (q := 143) fg_X12_42 kd_133 sf_X12_15 gr_133_15 dX12_kin_55 rfl ?_
            refine w_aload_n (pc' := 59) (i := 0) (by rfl) (by rfl) dX12_kin_58 rfl ?_
            refine v_getI (pc' := 62) (ji := 25) rfl fg_X12_302 kd_133 dX12_kin_59 rfl ?_
            show Wp _ _ _ _ _ _ [gI (σ 133 25), gR 143]
            rw [hI.f25]
            refine w_iload_n (pc' := 63) (i := 1) (by rfl) (by rfl) dX12_kin_62 rfl ?_
            refine w_iast (pc' := 64) kd_143 (by omega) (by omega) dX12_kin_63 rfl ?_
            refine w_aload_n (pc' := 65) (i := 0) (by rfl) (by rfl) dX12_kin_64 rfl ?_
            refine w_getS (pc' := 68) (q := 144) fg_X12_45 kd_133 sf_X12_16 gr_133_16 dX12_kin_65 rfl ?_
            refine w_aload_n (pc' := 69) (i := 0) (by rfl) (by rfl) dX12_kin_68 rfl ?_
            refine v_getI (pc' := 72) (ji := 25) rfl fg_X12_302 kd_133 dX12_kin_69 rfl ?_
            show Wp _ _ _ _ _ _ [gI (σ 133 25), gR 144]
            rw [hI.f25]
            refine w_iload_n (pc' := 73) (i := 2) (by rfl) (by rfl) dX12_kin_72 rfl ?_
            refine w_iast (pc' := 74) kd_144 (by omega) (by omega) dX12_kin_73 rfl ?_
            refine w_aload_n (pc' := 75) (i := 0) (by rfl) (by rfl) dX12_kin_74 rfl ?_
            refine w_getS (pc' := 78) (q := 145) fg_X12_48 kd_133 sf_X12_17 gr_133_17 dX12_kin_75 rfl ?_
            refine w_aload_n (pc' := 79) (i := 0) (by rfl) (by rfl) dX12_kin_78 rfl ?_
            refine v_getI (pc' := 82) (ji := 25) rfl fg_X12_302 kd_133 dX12_kin_79 rfl ?_
            show Wp _ _ _ _ _ _ [gI (σ 133 25), gR 145]
            rw [hI.f25]
            refine w_iload_n (pc' := 83) (i := 3) (by rfl) (by rfl) dX12_kin_82 rfl ?_
            refine w_iast (pc' := 84) kd_145 (by omega) (by omega) dX12_kin_83 rfl ?_
            refine w_aload_n (pc' := 85) (i := 0) (by rfl) (by rfl) dX12_kin_84 rfl ?_
            refine w_getS (pc' := 88) (q := 146) fg_X12_51 kd_133 sf_X12_18 gr_133_18 dX12_kin_85 rfl ?_
            refine w_aload_n (pc' := 89) (i := 0) (by rfl) (by rfl) dX12_kin_88 rfl ?_
            refine v_getI (pc' := 92) (ji := 25) rfl fg_X12_302 kd_133 dX12_kin_89 rfl ?_
            show Wp _ _ _ _ _ _ [gI (σ 133 25), gR 146]
            rw [hI.f25]
            refine w_iload (pc' := 94) (by rfl) dX12_kin_92 rfl ?_
            have hj_106 : Wp mX12_kin 30 (rE (gI (if ((0 ≤ a ∧ a < σ 3 2) ∧ σ 4 a = 0) ∧ ((0 ≤ b ∧ b < σ 3 2) ∧ σ 4 b = 0) ∧ a ≠ b then if ((0 ≤ f ∧ f ≤ 9999) ∧ (u = -1 ∨ (0 ≤ u ∧ u ≤ 9999) ∧ f + 1 ≤ u)) then -5 else -3 else -2)) (gUp σ 133 0 0)) (gUp (gUp (gUp (gUp σ 133 0 0) 143 (σ 6 6) a) 144 (σ 6 6) b) 145 (σ 6 6) f) 106 [gR 133, gI a, gI b, gI f, gI u] [gI (ev u), gI (σ 6 6), gR 146] := by
              refine w_iast (pc' := 107) kd_146 (by omega) (by omega) dX12_kin_106 rfl ?_
              refine w_aload_n (pc' := 108) (i := 0) (by rfl) (by rfl) dX12_kin_107 rfl ?_
              refine w_getS (pc' := 111) (q := 147) fg_X12_54 kd_133 sf_X12_19 gr_133_19 dX12_kin_108 rfl ?_
              refine w_aload_n (pc' := 112) (i := 0) (by rfl) (by rfl) dX12_kin_111 rfl ?_
              refine v_getI (pc' := 115) (ji := 25) rfl fg_X12_302 kd_133 dX12_kin_112 rfl ?_
              show Wp _ _ _ _ _ _ [gI (σ 133 25), gR 147]
              rw [hI.f25]
              refine w_aload_n (pc' := 116) (i := 0) (by rfl) (by rfl) dX12_kin_115 rfl ?_
              refine v_getI (pc' := 119) (ji := 3) rfl fg_X12_258 kd_133 dX12_kin_116 rfl ?_
              show Wp _ _ _ _ _ _ [gI (σ 133 3), gI (σ 6 6), gR 147]
              rw [hI.f3]
              refine w_iast (pc' := 120) kd_147 (by omega) (by omega) dX12_kin_119 rfl ?_
              refine w_aload_n (pc' := 121) (i := 0) (by rfl) (by rfl) dX12_kin_120 rfl ?_
              refine w_dup (pc' := 122) dX12_kin_121 rfl ?_
              refine v_getI (pc' := 125) (ji := 25) rfl fg_X12_302 kd_133 dX12_kin_122 rfl ?_
              show Wp _ _ _ _ _ _ [gI (σ 133 25), gR 133]
              rw [hI.f25]
              refine w_iconst (pc' := 126) (by decide) dX12_kin_125 rfl ?_
              refine v_iadd (pc' := 127) (by omega) dX12_kin_126 rfl ?_
              refine v_putI (pc' := 130) (ji := 25) rfl fp_X12_302 kd_133 sf_X12_25 dX12_kin_127 rfl ?_
              refine w_aload_n (pc' := 131) (i := 0) (by rfl) (by rfl) dX12_kin_130 rfl ?_
              refine v_getI (pc' := 134) (ji := 25) rfl fg_X12_302 kd_133 dX12_kin_131 rfl ?_
              show Wp _ _ _ _ _ _ [gI ((σ 6 6) + 1)]
              refine w_iconst (pc' := 135) (by decide) dX12_kin_134 rfl ?_
              refine v_isub (pc' := 136) (by omega) dX12_kin_135 rfl ?_
              refine v_ireturn rfl dX12_kin_136 ?_
              first
                | (exfalso; omega)
                | exact ⟨(by first | rfl | exact congrArg gI (by omega) | exact congrArg gI (gb_t (by omega)) | exact congrArg gI (gb_f (by omega)) | (refine congrArg gI ?_; (repeat' split) <;> omega)), rfl⟩
            refine w_iconst (pc' := 95) (by decide) dX12_kin_94 rfl ?_
            refine w_icmp_ne (pc' := 98) (t := 104) dX12_kin_95 rfl rfl (fun c_95 => ?_) (fun c_95 => ?_)
            · skip
              refine w_iload (pc' := 106) (by rfl) dX12_kin_104 rfl ?_
              exact Wp.stI (by first | (exfalso; omega) | (unfold ev; first | (rw [if_pos (by omega)]) | (rw [if_neg (by omega)]))) hj_106
            · skip
              refine w_ldc_w (pc' := 101) (by decide) ct_X12_282 dX12_kin_98 rfl ?_
              refine w_goto (pc' := 106) dX12_kin_101 rfl ?_
              exact Wp.stI (by first | (exfalso; omega) | (unfold ev; first | (rw [if_pos (by omega)]) | (rw [if_neg (by omega)]))) hj_106
          · skip
            refine w_bipush (pc' := 53) (by decide) (by decide) dX12_kin_51 rfl ?_
            refine v_ireturn rfl dX12_kin_53 ?_
            first
              | (exfalso; omega)
              | exact ⟨(by first | rfl | exact congrArg gI (by omega) | exact congrArg gI (gb_t (by omega)) | exact congrArg gI (gb_f (by omega)) | (refine congrArg gI ?_; (repeat' split) <;> omega)), rfl⟩
        · skip
          refine w_bipush (pc' := 41) (by decide) (by decide) dX12_kin_39 rfl ?_
          refine v_ireturn rfl dX12_kin_41 ?_
          first
            | (exfalso; omega)
            | exact ⟨(by first | rfl | exact congrArg gI (by omega) | exact congrArg gI (gb_t (by omega)) | exact congrArg gI (gb_f (by omega)) | (refine congrArg gI ?_; (repeat' split) <;> omega)), rfl⟩
      · skip
        refine w_bipush (pc' := 28) (by decide) (by decide) dX12_kin_26 rfl ?_
        refine v_ireturn rfl dX12_kin_28 ?_
        first
          | (exfalso; omega)
          | exact ⟨(by first | rfl | exact congrArg gI (by omega) | exact congrArg gI (gb_t (by omega)) | exact congrArg gI (gb_f (by omega)) | (refine congrArg gI ?_; (repeat' split) <;> omega)), rfl⟩
theorem i_kin {σ : gH} (hI : Inv σ) (a b f u : Int)  (hP : (((0 ≤ a ∧ a < σ 3 2) ∧ σ 4 a = 0) ∧ ((0 ≤ b ∧ b < σ 3 2) ∧ σ 4 b = 0) ∧ a ≠ b) ∧ ((0 ≤ f ∧ f ≤ 9999) ∧ (u = -1 ∨ (0 ≤ u ∧ u ≤ 9999) ∧ f + 1 ≤ u)) ∧ σ 6 6 < 100) : Inv (gUp (gUp (gUp (gUp (gUp (gUp (gUp (gUp (gUp (gUp (gUp (gUp (gUp (gUp σ 7 (σ 6 6) a) 8 (σ 6 6) b) 9 (σ 6 6) 0) 10 (σ 6 6) f) 11 (σ 6 6) u) 12 (σ 6 6) (σ 0 4)) 6 6 (σ 6 6 + 1)) 133 0 0) 143 (σ 6 6) a) 144 (σ 6 6) b) 145 (σ 6 6) f) 146 (σ 6 6) (ev u)) 147 (σ 6 6) (σ 0 4)) 133 25 ((σ 6 6) + 1)) := by
  refine ⟨⟨⟨hI.f.day, hI.f.tape, hI.f.outs, hI.f.party, hI.f.own, ?_, hI.f.post, hI.f.gift, hI.f.worth, hI.f.mem, hI.f.mat, hI.f.vote, hI.f.ent⟩, hI.law, hI.ord⟩, ⟨⟨?_, ?_⟩, hI.arr⟩, hI.mod⟩
  · have hS := hI.f.kin
    refine ⟨?_, ?_, ?_, fun i h0 h1 => ?_⟩
    · exact rfl
    · show 0 ≤ σ 6 6 + 1
      have := hS.2.1
      omega
    · show σ 6 6 + 1 ≤ 100
      omega
    · have h2 : i < σ 6 6 + 1 := h1
      show (if i = σ 6 6 then a else σ 143 i) = (if i = σ 6 6 then a else σ 7 i) ∧ (if i = σ 6 6 then b else σ 144 i) = (if i = σ 6 6 then b else σ 8 i) ∧ (if i = σ 6 6 then f else σ 145 i) = (if i = σ 6 6 then f else σ 10 i) ∧ (if i = σ 6 6 then ev u else σ 146 i) = ev ((if i = σ 6 6 then u else σ 11 i)) ∧ (if i = σ 6 6 then σ 0 4 else σ 147 i) = (if i = σ 6 6 then σ 0 4 else σ 12 i) ∧ isPe σ ((if i = σ 6 6 then a else σ 7 i)) ∧ isPe σ ((if i = σ 6 6 then b else σ 8 i)) ∧ (if i = σ 6 6 then a else σ 7 i) ≠ (if i = σ 6 6 then b else σ 8 i) ∧ okSpan ((if i = σ 6 6 then f else σ 10 i)) ((if i = σ 6 6 then u else σ 11 i)) 1 ∧ isDy ((if i = σ 6 6 then σ 0 4 else σ 12 i))
      by_cases hi : i = σ 6 6
      · simp only [if_pos hi]
        exact ⟨trivial, trivial, trivial, trivial, trivial, hP.1.1, hP.1.2.1, hP.1.2.2, hP.2.1, hI.f.day.2.1, hI.f.day.2.2⟩
      · simp only [if_neg hi]
        exact hS.2.2.2 i h0 (by omega)
  · show σ 3 8 ≤ σ 6 6 + 1
    have := hI.deg.1
    omega
  · intro _ h
    have h2 : σ 3 8 = σ 6 6 + 1 := h
    have := hI.deg.1
    omega
theorem ci_kin (a b f u : Int)  : CI Inv mX11_kin mX12_kin [gI a, gI b, gI f, gI u] := CI_reg (fun σ => (((0 ≤ a ∧ a < σ 3 2) ∧ σ 4 a = 0) ∧ ((0 ≤ b ∧ b < σ 3 2) ∧ σ 4 b = 0) ∧ a ≠ b) ∧ ((0 ≤ f ∧ f ≤ 9999) ∧ (u = -1 ∨ (0 ≤ u ∧ u ≤ 9999) ∧ f + 1 ≤ u)) ∧ σ 6 6 < 100) (fun σ => σ 6 6) (fun σ => if ((0 ≤ a ∧ a < σ 3 2) ∧ σ 4 a = 0) ∧ ((0 ≤ b ∧ b < σ 3 2) ∧ σ 4 b = 0) ∧ a ≠ b then if ((0 ≤ f ∧ f ≤ 9999) ∧ (u = -1 ∨ (0 ≤ u ∧ u ≤ 9999) ∧ f + 1 ≤ u)) then -5 else -3 else -2) (fun σ => gUp (gUp (gUp (gUp (gUp (gUp (gUp σ 7 (σ 6 6) a) 8 (σ 6 6) b) 9 (σ 6 6) 0) 10 (σ 6 6) f) 11 (σ 6 6) u) 12 (σ 6 6) (σ 0 4)) 6 6 (σ 6 6 + 1)) (fun σ => σ) (fun σ => gUp (gUp (gUp (gUp (gUp (gUp (gUp (gUp (gUp (gUp (gUp (gUp (gUp (gUp σ 7 (σ 6 6) a) 8 (σ 6 6) b) 9 (σ 6 6) 0) 10 (σ 6 6) f) 11 (σ 6 6) u) 12 (σ 6 6) (σ 0 4)) 6 6 (σ 6 6 + 1)) 133 0 0) 143 (σ 6 6) a) 144 (σ 6 6) b) 145 (σ 6 6) f) 146 (σ 6 6) (ev u)) 147 (σ 6 6) (σ 0 4)) 133 25 ((σ 6 6) + 1)) (fun σ => gUp σ 133 0 0) (fun σ hI => x_kin hI a b f u ) (fun σ hI hP => m_kinT hI a b f u  hP) (fun σ hI hP => m_kinF hI a b f u  hP) (fun σ hI hP => i_kin hI a b f u  hP) (fun σ hI _ => hI.thrown)
theorem x_post {σ : gH} (hI : Inv σ) (a b f u : Int)  : Mt mX11_post 30 [gR 0, gI a, gI b, gI f, gI u] σ (fun v σ' => (((((0 ≤ a ∧ a < σ 3 2) ∧ σ 4 a = 0) ∧ ((0 ≤ b ∧ b < σ 3 2) ∧ σ 4 b ≠ 0)) ∧ ((0 ≤ f ∧ f ≤ 9999) ∧ (u = -1 ∨ (0 ≤ u ∧ u ≤ 9999) ∧ f + 0 ≤ u)) ∧ σ 34 6 < 60) ∧ v = gI (σ 34 6) ∧ σ' = gUp (gUp (gUp (gUp (gUp (gUp (gUp σ 35 (σ 34 6) a) 36 (σ 34 6) b) 37 (σ 34 6) 0) 38 (σ 34 6) f) 39 (σ 34 6) u) 40 (σ 34 6) (σ 0 4)) 34 6 (σ 34 6 + 1)) ∨ (¬ ((((0 ≤ a ∧ a < σ 3 2) ∧ σ 4 a = 0) ∧ ((0 ≤ b ∧ b < σ 3 2) ∧ σ 4 b ≠ 0)) ∧ ((0 ≤ f ∧ f ≤ 9999) ∧ (u = -1 ∨ (0 ≤ u ∧ u ≤ 9999) ∧ f + 0 ≤ u)) ∧ σ 34 6 < 60) ∧ v = gI (if ((0 ≤ a ∧ a < σ 3 2) ∧ σ 4 a = 0) ∧ ((0 ≤ b ∧ b < σ 3 2) ∧ σ 4 b ≠ 0) then if ((0 ≤ f ∧ f ≤ 9999) ∧ (u = -1 ∨ (0 ≤ u ∧ u ≤ 9999) ∧ f + 0 ≤ u)) then -5 else -3 else -2) ∧ σ' = σ)) := by
  refine Mt.walk (ls := [gR 0, gI a, gI b, gI f, gI u]) pn_X11 rfl (fun _ _ h => by rcases h with h | h <;> exact absurd h.2.1 (by intro h; cases h)) (Nat.le_of_ble_eq_true rfl) rfl ?_
  have hday := hI.f.day
  unfold S_day at hday
  have hp := hI.f.hp
  have hp0 := hI.f.party.2.1
  have hT := hI.f.tape.2.1
  have hT2 := hI.f.tape.2.2.1
  have f6 := hI.f6
  have hkn := hI.f.kin.2.1
  have hkn2 := hI.f.kin.2.2.1
  have hpo := hI.f.post.2.1
  have hpo2 := hI.f.post.2.2.1
  have e135a : 0 ≤ a → a < σ 3 2 → σ 135 a = σ 4 a := fun h0 h1 => hI.e135 h0 h1
  have s135a : 0 ≤ a → a < σ 3 2 → 0 ≤ σ 4 a := fun h0 h1 => (hI.f.party.2.2.2 a h0 h1).2.1
  have e135b : 0 ≤ b → b < σ 3 2 → σ 135 b = σ 4 b := fun h0 h1 => hI.e135 h0 h1
  have s135b : 0 ≤ b → b < σ 3 2 → 0 ≤ σ 4 b := fun h0 h1 => (hI.f.party.2.2.2 b h0 h1).2.1
  refine w_aload_n (pc' := 1) (i := 0) (by rfl) (by rfl) dX11_post_0 rfl ?_
  refine w_getS (pc' := 4) (q := 3) fg_X11_21 kd_0 sf_X11_5 gr_0_5 dX11_post_1 rfl ?_
  refine w_iload_n (pc' := 5) (i := 1) (by rfl) (by rfl) dX11_post_4 rfl ?_
  refine v_callVE (pc' := 8) (st' := [gI (gb ((0 ≤ a ∧ a < (σ 3 2)) ∧ (σ 4 a) = 0))]) (d' := 1) (av := [gI a]) mi_mX8_isPerson lk_X11_132 rfl ci_X8 kd_3 rfl (Nat.le_of_ble_eq_true rfl) (Nat.le_of_ble_eq_true rfl) dX11_post_5 rfl rfl (pa_isPerson σ (by first | exact hp | omega) a) ?_
  refine v_if_eqB (pc' := 11) (t := 22) dX11_post_8 rfl rfl (fun c_8 => ?_) (fun c_8 => ?_)
  · skip
    refine w_bipush (pc' := 24) (by decide) (by decide) dX11_post_22 rfl ?_
    refine v_ireturn rfl dX11_post_24 ?_
    first
      | (exfalso; omega)
      | exact .inl ⟨by omega, (by first | rfl | exact congrArg gI (by omega) | exact congrArg gI (gb_t (by omega)) | exact congrArg gI (gb_f (by omega)) | (refine congrArg gI ?_; (repeat' split) <;> omega)), rfl⟩
      | exact .inr ⟨by omega, (by first | rfl | exact congrArg gI (by omega) | exact congrArg gI (gb_t (by omega)) | exact congrArg gI (gb_f (by omega)) | (refine congrArg gI ?_; (repeat' split) <;> omega)), rfl⟩
  · skip
    refine w_aload_n (pc' := 12) (i := 0) (by rfl) (by rfl) dX11_post_11 rfl ?_
    refine w_getS (pc' := 15) (q := 3) fg_X11_21 kd_0 sf_X11_5 gr_0_5 dX11_post_12 rfl ?_
    refine w_iload_n (pc' := 16) (i := 2) (by rfl) (by rfl) dX11_post_15 rfl ?_
    refine v_callVE (pc' := 19) (st' := [gI (gb ((0 ≤ b ∧ b < (σ 3 2)) ∧ (σ 4 b) ≠ 0))]) (d' := 1) (av := [gI b]) mi_mX8_canBeHeld lk_X11_115 rfl ci_X8 kd_3 rfl (Nat.le_of_ble_eq_true rfl) (Nat.le_of_ble_eq_true rfl) dX11_post_16 rfl rfl (pa_canBeHeld σ (by first | exact hp | omega) b) ?_
    refine v_if_neB (pc' := 22) (t := 25) dX11_post_19 rfl rfl (fun c_19 => ?_) (fun c_19 => ?_)
    · skip
      refine w_iload_n (pc' := 26) (i := 3) (by rfl) (by rfl) dX11_post_25 rfl ?_
      refine w_iload (pc' := 28) (by rfl) dX11_post_26 rfl ?_
      refine w_iconst (pc' := 29) (by decide) dX11_post_28 rfl ?_
      refine v_callSE (pc' := 32) (st' := [gI (gb ((0 ≤ f ∧ f ≤ 9999) ∧ (u = -1 ∨ (0 ≤ u ∧ u ≤ 9999) ∧ f + 0 ≤ u)))]) (d' := 1) (av := [gI f, gI u, gI 0]) ms_mX11_isSpan st_mX11_isSpan lk_X11_118 rfl rfl (Nat.le_of_ble_eq_true rfl) (Nat.le_of_ble_eq_true rfl) dX11_post_29 rfl rfl (cl_isSpan σ f u 0 (by decide)) ?_
      refine v_if_neB (pc' := 35) (t := 38) dX11_post_32 rfl rfl (fun c_32 => ?_) (fun c_32 => ?_)
      · skip
        refine w_aload_n (pc' := 39) (i := 0) (by rfl) (by rfl) dX11_post_38 rfl ?_
        refine w_getS (pc' := 42) (q := 34) fg_X11_44 kd_0 sf_X11_8 gr_0_8 dX11_post_39 rfl ?_
        refine w_iload_n (pc' := 43) (i := 1) (by rfl) (by rfl) dX11_post_42 rfl ?_
        refine w_iload_n (pc' := 44) (i := 2) (by rfl) (by rfl) dX11_post_43 rfl ?_
        refine w_iconst (pc' := 45) (by decide) dX11_post_44 rfl ?_
        refine w_iload_n (pc' := 46) (i := 3) (by rfl) (by rfl) dX11_post_45 rfl ?_
        refine w_iload (pc' := 48) (by rfl) dX11_post_46 rfl ?_
        refine w_aload_n (pc' := 49) (i := 0) (by rfl) (by rfl) dX11_post_48 rfl ?_
        refine v_getI (pc' := 52) (ji := 4) rfl fg_X11_96 kd_0 dX11_post_49 rfl ?_
        by_cases c_52 : σ 34 6 < 60
        · skip
          refine v_callVE (pc' := 55) (st' := [gI (σ 34 6)]) (d' := 0) (av := [gI a, gI b, gI 0, gI f, gI u, gI (σ 0 4)]) mi_mX9_add lk_X11_139 rfl ci_X9 kd_34 rfl (Nat.le_of_ble_eq_true rfl) (Nat.le_of_ble_eq_true rfl) dX11_post_52 rfl rfl (sp34_addT σ a b 0 f u (σ 0 4) (show 0 ≤ σ 34 6 ∧ σ 34 6 < 60 by omega)) ?_
          show Wp _ _ _ (gUp (gUp (gUp (gUp (gUp (gUp (gUp σ 35 (σ 34 6) a) 36 (σ 34 6) b) 37 (σ 34 6) 0) 38 (σ 34 6) f) 39 (σ 34 6) u) 40 (σ 34 6) (σ 0 4)) 34 6 (σ 34 6 + 1)) _ _ [gI (σ 34 6)]
          refine v_ireturn rfl dX11_post_55 ?_
          first
            | (exfalso; omega)
            | exact .inl ⟨by omega, (by first | rfl | exact congrArg gI (by omega) | exact congrArg gI (gb_t (by omega)) | exact congrArg gI (gb_f (by omega)) | (refine congrArg gI ?_; (repeat' split) <;> omega)), rfl⟩
            | exact .inr ⟨by omega, (by first | rfl | exact congrArg gI (by omega) | exact congrArg gI (gb_t (by omega)) | exact congrArg gI (gb_f (by omega)) | (refine congrArg gI ?_; (repeat' split) <;> omega)), rfl⟩
        · skip
          refine v_callVE (pc' := 55) (st' := [gI (-5)]) (d' := 0) (av := [gI a, gI b, gI 0, gI f, gI u, gI (σ 0 4)]) mi_mX9_add lk_X11_139 rfl ci_X9 kd_34 rfl (Nat.le_of_ble_eq_true rfl) (Nat.le_of_ble_eq_true rfl) dX11_post_52 rfl rfl (sp34_addF σ a b 0 f u (σ 0 4) (show ¬ σ 34 6 < 60 by omega)) ?_
          show Wp _ _ _ σ _ _ [gI (-5)]
          refine v_ireturn rfl dX11_post_55 ?_
          first
            | (exfalso; omega)
            | exact .inl ⟨by omega, (by first | rfl | exact congrArg gI (by omega) | exact congrArg gI (gb_t (by omega)) | exact congrArg gI (gb_f (by omega)) | (refine congrArg gI ?_; (repeat' split) <;> omega)), rfl⟩
            | exact .inr ⟨by omega, (by first | rfl | exact congrArg gI (by omega) | exact congrArg gI (gb_t (by omega)) | exact congrArg gI (gb_f (by omega)) | (refine congrArg gI ?_; (repeat' split) <;> omega)), rfl⟩
      · skip
        refine w_bipush (pc' := 37) (by decide) (by decide) dX11_post_35 rfl ?_
        refine v_ireturn rfl dX11_post_37 ?_
        first
          | (exfalso; omega)
          | exact .inl ⟨by omega, (by first | rfl | exact congrArg gI (by omega) | exact congrArg gI (gb_t (by omega)) | exact congrArg gI (gb_f (by omega)) | (refine congrArg gI ?_; (repeat' split) <;> omega)), rfl⟩
          | exact .inr ⟨by omega, (by first | rfl | exact congrArg gI (by omega) | exact congrArg gI (gb_t (by omega)) | exact congrArg gI (gb_f (by omega)) | (refine congrArg gI ?_; (repeat' split) <;> omega)), rfl⟩
    · skip
      refine w_bipush (pc' := 24) (by decide) (by decide) dX11_post_22 rfl ?_
      refine v_ireturn rfl dX11_post_24 ?_
      first
        | (exfalso; omega)
        | exact .inl ⟨by omega, (by first | rfl | exact congrArg gI (by omega) | exact congrArg gI (gb_t (by omega)) | exact congrArg gI (gb_f (by omega)) | (refine congrArg gI ?_; (repeat' split) <;> omega)), rfl⟩
        | exact .inr ⟨by omega, (by first | rfl | exact congrArg gI (by omega) | exact congrArg gI (gb_t (by omega)) | exact congrArg gI (gb_f (by omega)) | (refine congrArg gI ?_; (repeat' split) <;> omega)), rfl⟩
theorem m_postT {σ : gH} (hI : Inv σ) (a b f u : Int)  (hP : (((0 ≤ a ∧ a < σ 3 2) ∧ σ 4 a = 0) ∧ ((0 ≤ b ∧ b < σ 3 2) ∧ σ 4 b ≠ 0)) ∧ ((0 ≤ f ∧ f ≤ 9999) ∧ (u = -1 ∨ (0 ≤ u ∧ u ≤ 9999) ∧ f + 0 ≤ u)) ∧ σ 34 6 < 60) : Mt mX12_post 30 [gR 133, gI a, gI b, gI f, gI u] (gUp (gUp (gUp (gUp (gUp (gUp (gUp σ 35 (σ 34 6) a) 36 (σ 34 6) b) 37 (σ 34 6) 0) 38 (σ 34 6) f) 39 (σ 34 6) u) 40 (σ 34 6) (σ 0 4)) 34 6 (σ 34 6 + 1)) (rE (gI (σ 34 6)) (gUp (gUp (gUp (gUp (gUp (gUp (gUp (gUp (gUp (gUp (gUp (gUp (gUp (gUp σ 35 (σ 34 6) a) 36 (σ 34 6) b) 37 (σ 34 6) 0) 38 (σ 34 6) f) 39 (σ 34 6) u) 40 (σ 34 6) (σ 0 4)) 34 6 (σ 34 6 + 1)) 133 0 0) 148 (σ 34 6) a) 149 (σ 34 6) b) 150 (σ 34 6) f) 151 (σ 34 6) (ev u)) 152 (σ 34 6) (σ 0 4)) 133 26 ((σ 34 6) + 1))) := by
  refine Mt.walk (ls := [gR 133, gI a, gI b, gI f, gI u]) pn_X12 rfl (fun _ _ h => by cases h.1) (Nat.le_of_ble_eq_true rfl) rfl ?_
  have hday := hI.f.day
  unfold S_day at hday
  have hp := hI.f.hp
  have hp0 := hI.f.party.2.1
  have hT := hI.f.tape.2.1
  have hT2 := hI.f.tape.2.2.1
  have f6 := hI.f6
  have hkn := hI.f.kin.2.1
  have hkn2 := hI.f.kin.2.2.1
  have hpo := hI.f.post.2.1
  have hpo2 := hI.f.post.2.2.1
  have e135a : 0 ≤ a → a < σ 3 2 → σ 135 a = σ 4 a := fun h0 h1 => hI.e135 h0 h1
  have s135a : 0 ≤ a → a < σ 3 2 → 0 ≤ σ 4 a := fun h0 h1 => (hI.f.party.2.2.2 a h0 h1).2.1
  have e135b : 0 ≤ b → b < σ 3 2 → σ 135 b = σ 4 b := fun h0 h1 => hI.e135 h0 h1
  have s135b : 0 ≤ b → b < σ 3 2 → 0 ≤ σ 4 b := fun h0 h1 => (hI.f.party.2.2.2 b h0 h1).2.1
  refine w_aload_n (pc' := 1) (i := 0) (by rfl) (by rfl) dX12_post_0 rfl ?_
  refine w_iconst (pc' := 2) (by decide) dX12_post_1 rfl ?_
  refine v_putI (pc' := 5) (ji := 0) rfl fp_X12_244 kd_133 sf_X12_0 dX12_post_2 rfl ?_
  refine w_aload_n (pc' := 6) (i := 0) (by rfl) (by rfl) dX12_post_5 rfl ?_
  refine w_iload_n (pc' := 7) (i := 1) (by rfl) (by rfl) dX12_post_6 rfl ?_
  refine v_callVE (pc' := 10) (st' := [gI (gb ((0 ≤ a ∧ a < (σ 133 6)) ∧ (σ 135 a) = 0))]) (d' := 1) (av := [gI a]) mi_mX12_isPerson lk_X12_299 rfl ci_X12 kd_133 rfl (Nat.le_of_ble_eq_true rfl) (Nat.le_of_ble_eq_true rfl) dX12_post_7 rfl rfl (mo_isPerson (gUp (gUp (gUp (gUp (gUp (gUp (gUp (gUp σ 35 (σ 34 6) a) 36 (σ 34 6) b) 37 (σ 34 6) 0) 38 (σ 34 6) f) 39 (σ 34 6) u) 40 (σ 34 6) (σ 0 4)) 34 6 (σ 34 6 + 1)) 133 0 0) (show σ 133 6 ≤ 60 by omega) a) ?_
  refine v_if_eqB (pc' := 13) (t := 21) dX12_post_10 rfl rfl (fun c_10 => ?_) (fun c_10 => ?_)
  · skip
    refine w_bipush (pc' := 23) (by decide) (by decide) dX12_post_21 rfl ?_
    refine v_ireturn rfl dX12_post_23 ?_
    first
      | (exfalso; omega)
      | exact ⟨(by first | rfl | exact congrArg gI (by omega) | exact congrArg gI (gb_t (by omega)) | exact congrArg gI (gb_f (by omega)) | (refine congrArg gI ?_; (repeat' split) <;> omega)), rfl⟩
  · skip
    refine w_aload_n (pc' := 14) (i := 0) (by rfl) (by rfl) dX12_post_13 rfl ?_
    refine w_iload_n (pc' := 15) (i := 2) (by rfl) (by rfl) dX12_post_14 rfl ?_
    refine v_callVE (pc' := 18) (st' := [gI (gb ((0 ≤ b ∧ b < (σ 133 6)) ∧ 0 < (σ 135 b)))]) (d' := 1) (av := [gI b]) mi_mX12_isHouse lk_X12_289 rfl ci_X12 kd_133 rfl (Nat.le_of_ble_eq_true rfl) (Nat.le_of_ble_eq_true rfl) dX12_post_15 rfl rfl (mo_isHouse (gUp (gUp (gUp (gUp (gUp (gUp (gUp (gUp σ 35 (σ 34 6) a) 36 (σ 34 6) b) 37 (σ 34 6) 0) 38 (σ 34 6) f) 39 (σ 34 6) u) 40 (σ 34 6) (σ 0 4)) 34 6 (σ 34 6 + 1)) 133 0 0) (show σ 133 6 ≤ 60 by omega) b) ?_
    refine v_if_neB (pc' := 21) (t := 24) dX12_post_18 rfl rfl (fun c_18 => ?_) (fun c_18 => ?_)
    · skip
      refine w_iload_n (pc' := 25) (i := 3) (by rfl) (by rfl) dX12_post_24 rfl ?_
      refine w_iload (pc' := 27) (by rfl) dX12_post_25 rfl ?_
      refine w_iconst (pc' := 28) (by decide) dX12_post_27 rfl ?_
      refine v_callSE (pc' := 31) (st' := [gI (gb ((0 ≤ f ∧ f ≤ 9999) ∧ (u = -1 ∨ (0 ≤ u ∧ u ≤ 9999) ∧ f + 0 ≤ u)))]) (d' := 1) (av := [gI f, gI u, gI 0]) ms_mX12_areDays st_mX12_areDays lk_X12_292 rfl rfl (Nat.le_of_ble_eq_true rfl) (Nat.le_of_ble_eq_true rfl) dX12_post_28 rfl rfl (mo_areDays (gUp (gUp (gUp (gUp (gUp (gUp (gUp (gUp σ 35 (σ 34 6) a) 36 (σ 34 6) b) 37 (σ 34 6) 0) 38 (σ 34 6) f) 39 (σ 34 6) u) 40 (σ 34 6) (σ 0 4)) 34 6 (σ 34 6 + 1)) 133 0 0) f u 0 (by decide)) ?_
      refine v_if_neB (pc' := 34) (t := 37) dX12_post_31 rfl rfl (fun c_31 => ?_) (fun c_31 => ?_)
      · skip
        refine w_aload_n (pc' := 38) (i := 0) (by rfl) (by rfl) dX12_post_37 rfl ?_
        refine v_getI (pc' := 41) (ji := 26) rfl fg_X12_305 kd_133 dX12_post_38 rfl ?_
        show Wp _ _ _ _ _ _ [gI (σ 133 26)]
        rw [hI.f26]
        refine w_bipush (pc' := 43) (by decide) (by decide) dX12_post_41 rfl ?_
        refine w_icmp_ne (pc' := 46) (t := 49) dX12_post_43 rfl rfl (fun c_43 => ?_) (fun c_43 => ?_)
        · skip
          refine w_aload_n (pc' := 50) (i := 0) (by rfl) (by rfl) dX12_post_49 rfl ?_
          refine w_getS (pc' := 53) (q := 148) fg_X12_57 kd_133 sf_X12_20 gr_133_20 dX12_post_50 rfl ?_
          refine w_aload_n (pc' := 54) (i := 0) (by rfl) (by rfl) dX12_post_53 rfl ?_
          refine v_getI (pc' := 57) (ji := 26) rfl fg_X12_305 kd_133 dX12_post_54 rfl ?_
          show Wp _ _ _ _ _ _ [gI (σ 133 26), gR 148]
          rw [hI.f26]
          refine w_iload_n (pc' := 58) (i := 1) (by rfl) (by rfl) dX12_post_57 rfl ?_
          refine w_iast (pc' := 59) kd_148 (by omega) (by omega) dX12_post_58 rfl ?_
          refine w_aload_n (pc' := 60) (i := 0) (by rfl) (by rfl) dX12_post_59 rfl ?_
          refine w_getS (pc' := 63) (q := 149) fg_X12_60 kd_133 sf_X12_21 gr_133_21 dX12_post_60 rfl ?_
          refine w_aload_n (pc' := 64) (i := 0) (by rfl) (by rfl) dX12_post_63 rfl ?_
          refine v_getI (pc' := 67) (ji := 26) rfl fg_X12_305 kd_133 dX12_post_64 rfl ?_
          show Wp _ _ _ _ _ _ [gI (σ 133 26), gR 149]
          rw [hI.f26]
          refine w_iload_n (pc' := 68) (i := 2) (by rfl) (by rfl) dX12_post_67 rfl ?_
          refine w_iast (pc' := 69) kd_149 (by omega) (by omega) dX12_post_68 rfl ?_
          refine w_aload_n (pc' := 70) (i := 0) (by rfl) (by rfl) dX12_post_69 rfl ?_
          refine w_getS (pc' := 73) (q := 150) fg_X12_63 kd_133 sf_X12_22 gr_133_22 dX12_post_70 rfl ?_
          refine w_aload_n (pc' := 74) (i := 0) (by rfl) (by rfl) dX12_post_73 rfl ?_
          refine v_getI (pc' := 77) (ji := 26) rfl fg_X12_305 kd_133 dX12_post_74 rfl ?_
          show Wp _ _ _ _ _ _ [gI (σ 133 26), gR 150]
          rw [hI.f26]
          refine w_iload_n (pc' := 78) (i := 3) (by rfl) (by rfl) dX12_post_77 rfl ?_
          refine w_iast (pc' := 79) kd_150 (by omega) (by omega) dX12_post_78 rfl ?_
          refine w_aload_n (pc' := 80) (i := 0) (by rfl) (by rfl) dX12_post_79 rfl ?_
          refine w_getS (pc' := 83) (q := 151) fg_X12_66 kd_133 sf_X12_23 gr_133_23 dX12_post_80 rfl ?_
          refine w_aload_n (pc' := 84) (i := 0) (by rfl) (by rfl) dX12_post_83 rfl ?_
          refine v_getI (pc' := 87) (ji := 26) rfl fg_X12_305 kd_133 dX12_post_84 rfl ?_
          show Wp _ _ _ _ _ _ [gI (σ 133 26), gR 151]
          rw [hI.f26]
          refine w_iload (pc' := 89) (by rfl) dX12_post_87 rfl ?_
          have hj_101 : Wp mX12_post 30 (rE (gI (σ 34 6)) (gUp (gUp (gUp (gUp (gUp (gUp (gUp (gUp (gUp (gUp (gUp (gUp (gUp (gUp σ 35 (σ 34 6) a) 36 (σ 34 6) b) 37 (σ 34 6) 0) 38 (σ 34 6) f) 39 (σ 34 6) u) 40 (σ 34 6) (σ 0 4)) 34 6 (σ 34 6 + 1)) 133 0 0) 148 (σ 34 6) a) 149 (σ 34 6) b) 150 (σ 34 6) f) 151 (σ 34 6) (ev u)) 152 (σ 34 6) (σ 0 4)) 133 26 ((σ 34 6) + 1))) (gUp (gUp (gUp (gUp (gUp (gUp (gUp (gUp (gUp (gUp (gUp σ 35 (σ 34 6) a) 36 (σ 34 6) b) 37 (σ 34 6) 0) 38 (σ 34 6) f) 39 (σ 34 6) u) 40 (σ 34 6) (σ 0 4)) 34 6 (σ 34 6 + 1)) 133 0 0) 148 (σ 34 6) a) 149 (σ 34 6) b) 150 (σ 34 6) f) 101 [gR 133, gI a, gI b, gI f, gI u] [gI (ev u), gI (σ 34 6), gR 151] := by
            refine w_iast (pc' := 102) kd_151 (by omega) (by omega) dX12_post_101 rfl ?_
            refine w_aload_n (pc' := 103) (i := 0) (by rfl) (by rfl) dX12_post_102 rfl ?_
            refine w_getS (pc' := 106) (q := 152) fg_X12_69 kd_133 sf_X12_24 gr_133_24 dX12_post_103 rfl ?_
            refine w_aload_n (pc' := 107) (i := 0) (by rfl) (by rfl) dX12_post_106 rfl ?_
            refine v_getI (pc' := 110) (ji := 26) rfl fg_X12_305 kd_133 dX12_post_107 rfl ?_
            show Wp _ _ _ _ _ _ [gI (σ 133 26), gR 152]
            rw [hI.f26]
            refine w_aload_n (pc' := 111) (i := 0) (by rfl) (by rfl) dX12_post_110 rfl ?_
            refine v_getI (pc' := 114) (ji := 3) rfl fg_X12_258 kd_133 dX12_post_111 rfl ?_
            show Wp _ _ _ _ _ _ [gI (σ 133 3), gI (σ 34 6), gR 152]
            rw [hI.f3]
            refine w_iast (pc' := 115) kd_152 (by omega) (by omega) dX12_post_114 rfl ?_
            refine w_aload_n (pc' := 116) (i := 0) (by rfl) (by rfl) dX12_post_115 rfl ?_
            refine w_dup (pc' := 117) dX12_post_116 rfl ?_
            refine v_getI (pc' := 120) (ji := 26) rfl fg_X12_305 kd_133 dX12_post_117 rfl ?_
            show Wp _ _ _ _ _ _ [gI (σ 133 26), gR 133]
            rw [hI.f26]
            refine w_iconst (pc' := 121) (by decide) dX12_post_120 rfl ?_
            refine v_iadd (pc' := 122) (by omega) dX12_post_121 rfl ?_
            refine v_putI (pc' := 125) (ji := 26) rfl fp_X12_305 kd_133 sf_X12_26 dX12_post_122 rfl ?_
            refine w_aload_n (pc' := 126) (i := 0) (by rfl) (by rfl) dX12_post_125 rfl ?_
            refine v_getI (pc' := 129) (ji := 26) rfl fg_X12_305 kd_133 dX12_post_126 rfl ?_
            show Wp _ _ _ _ _ _ [gI ((σ 34 6) + 1)]
            refine w_iconst (pc' := 130) (by decide) dX12_post_129 rfl ?_
            refine v_isub (pc' := 131) (by omega) dX12_post_130 rfl ?_
            refine v_ireturn rfl dX12_post_131 ?_
            first
              | (exfalso; omega)
              | exact ⟨(by first | rfl | exact congrArg gI (by omega) | exact congrArg gI (gb_t (by omega)) | exact congrArg gI (gb_f (by omega)) | (refine congrArg gI ?_; (repeat' split) <;> omega)), rfl⟩
          refine w_iconst (pc' := 90) (by decide) dX12_post_89 rfl ?_
          refine w_icmp_ne (pc' := 93) (t := 99) dX12_post_90 rfl rfl (fun c_90 => ?_) (fun c_90 => ?_)
          · skip
            refine w_iload (pc' := 101) (by rfl) dX12_post_99 rfl ?_
            exact Wp.stI (by first | (exfalso; omega) | (unfold ev; first | (rw [if_pos (by omega)]) | (rw [if_neg (by omega)]))) hj_101
          · skip
            refine w_ldc_w (pc' := 96) (by decide) ct_X12_282 dX12_post_93 rfl ?_
            refine w_goto (pc' := 101) dX12_post_96 rfl ?_
            exact Wp.stI (by first | (exfalso; omega) | (unfold ev; first | (rw [if_pos (by omega)]) | (rw [if_neg (by omega)]))) hj_101
        · skip
          refine w_bipush (pc' := 48) (by decide) (by decide) dX12_post_46 rfl ?_
          refine v_ireturn rfl dX12_post_48 ?_
          first
            | (exfalso; omega)
            | exact ⟨(by first | rfl | exact congrArg gI (by omega) | exact congrArg gI (gb_t (by omega)) | exact congrArg gI (gb_f (by omega)) | (refine congrArg gI ?_; (repeat' split) <;> omega)), rfl⟩
      · skip
        refine w_bipush (pc' := 36) (by decide) (by decide) dX12_post_34 rfl ?_
        refine v_ireturn rfl dX12_post_36 ?_
        first
          | (exfalso; omega)
          | exact ⟨(by first | rfl | exact congrArg gI (by omega) | exact congrArg gI (gb_t (by omega)) | exact congrArg gI (gb_f (by omega)) | (refine congrArg gI ?_; (repeat' split) <;> omega)), rfl⟩
    · skip
      refine w_bipush (pc' := 23) (by decide) (by decide) dX12_post_21 rfl ?_
      refine v_ireturn rfl dX12_post_23 ?_
      first
        | (exfalso; omega)
        | exact ⟨(by first | rfl | exact congrArg gI (by omega) | exact congrArg gI (gb_t (by omega)) | exact congrArg gI (gb_f (by omega)) | (refine congrArg gI ?_; (repeat' split) <;> omega)), rfl⟩
theorem m_postF {σ : gH} (hI : Inv σ) (a b f u : Int)  (hP : ¬ ((((0 ≤ a ∧ a < σ 3 2) ∧ σ 4 a = 0) ∧ ((0 ≤ b ∧ b < σ 3 2) ∧ σ 4 b ≠ 0)) ∧ ((0 ≤ f ∧ f ≤ 9999) ∧ (u = -1 ∨ (0 ≤ u ∧ u ≤ 9999) ∧ f + 0 ≤ u)) ∧ σ 34 6 < 60)) : Mt mX12_post 30 [gR 133, gI a, gI b, gI f, gI u] σ (rE (gI (if ((0 ≤ a ∧ a < σ 3 2) ∧ σ 4 a = 0) ∧ ((0 ≤ b ∧ b < σ 3 2) ∧ σ 4 b ≠ 0) then if ((0 ≤ f ∧ f ≤ 9999) ∧ (u = -1 ∨ (0 ≤ u ∧ u ≤ 9999) ∧ f + 0 ≤ u)) then -5 else -3 else -2)) (gUp σ 133 0 0)) := by
  refine Mt.walk (ls := [gR 133, gI a, gI b, gI f, gI u]) pn_X12 rfl (fun _ _ h => by cases h.1) (Nat.le_of_ble_eq_true rfl) rfl ?_
  have hday := hI.f.day
  unfold S_day at hday
  have hp := hI.f.hp
  have hp0 := hI.f.party.2.1
  have hT := hI.f.tape.2.1
  have hT2 := hI.f.tape.2.2.1
  have f6 := hI.f6
  have hkn := hI.f.kin.2.1
  have hkn2 := hI.f.kin.2.2.1
  have hpo := hI.f.post.2.1
  have hpo2 := hI.f.post.2.2.1
  have e135a : 0 ≤ a → a < σ 3 2 → σ 135 a = σ 4 a := fun h0 h1 => hI.e135 h0 h1
  have s135a : 0 ≤ a → a < σ 3 2 → 0 ≤ σ 4 a := fun h0 h1 => (hI.f.party.2.2.2 a h0 h1).2.1
  have e135b : 0 ≤ b → b < σ 3 2 → σ 135 b = σ 4 b := fun h0 h1 => hI.e135 h0 h1
  have s135b : 0 ≤ b → b < σ 3 2 → 0 ≤ σ 4 b := fun h0 h1 => (hI.f.party.2.2.2 b h0 h1).2.1
  refine w_aload_n (pc' := 1) (i := 0) (by rfl) (by rfl) dX12_post_0 rfl ?_
  refine w_iconst (pc' := 2) (by decide) dX12_post_1 rfl ?_
  refine v_putI (pc' := 5) (ji := 0) rfl fp_X12_244 kd_133 sf_X12_0 dX12_post_2 rfl ?_
  refine w_aload_n (pc' := 6) (i := 0) (by rfl) (by rfl) dX12_post_5 rfl ?_
  refine w_iload_n (pc' := 7) (i := 1) (by rfl) (by rfl) dX12_post_6 rfl ?_
  refine v_callVE (pc' := 10) (st' := [gI (gb ((0 ≤ a ∧ a < (σ 133 6)) ∧ (σ 135 a) = 0))]) (d' := 1) (av := [gI a]) mi_mX12_isPerson lk_X12_299 rfl ci_X12 kd_133 rfl (Nat.le_of_ble_eq_true rfl) (Nat.le_of_ble_eq_true rfl) dX12_post_7 rfl rfl (mo_isPerson (gUp σ 133 0 0) (show σ 133 6 ≤ 60 by omega) a) ?_
  refine v_if_eqB (pc' := 13) (t := 21) dX12_post_10 rfl rfl (fun c_10 => ?_) (fun c_10 => ?_)
  · skip
    refine w_bipush (pc' := 23) (by decide) (by decide) dX12_post_21 rfl ?_
    refine v_ireturn rfl dX12_post_23 ?_
    first
      | (exfalso; omega)
      | exact ⟨(by first | rfl | exact congrArg gI (by omega) | exact congrArg gI (gb_t (by omega)) | exact congrArg gI (gb_f (by omega)) | (refine congrArg gI ?_; (repeat' split) <;> omega)), rfl⟩
  · skip
    refine w_aload_n (pc' := 14) (i := 0) (by rfl) (by rfl) dX12_post_13 rfl ?_
    refine w_iload_n (pc' := 15) (i := 2) (by rfl) (by rfl) dX12_post_14 rfl ?_
    refine v_callVE (pc' := 18) (st' := [gI (gb ((0 ≤ b ∧ b < (σ 133 6)) ∧ 0 < (σ 135 b)))]) (d' := 1) (av := [gI b]) mi_mX12_isHouse lk_X12_289 rfl ci_X12 kd_133 rfl (Nat.le_of_ble_eq_true rfl) (Nat.le_of_ble_eq_true rfl) dX12_post_15 rfl rfl (mo_isHouse (gUp σ 133 0 0) (show σ 133 6 ≤ 60 by omega) b) ?_
    refine v_if_neB (pc' := 21) (t := 24) dX12_post_18 rfl rfl (fun c_18 => ?_) (fun c_18 => ?_)
    · skip
      refine w_iload_n (pc' := 25) (i := 3) (by rfl) (by rfl) dX12_post_24 rfl ?_
      refine w_iload (pc' := 27) (by rfl) dX12_post_25 rfl ?_
      refine w_iconst (pc' := 28) (by decide) dX12_post_27 rfl ?_
      refine v_callSE (pc' := 31) (st' := [gI (gb ((0 ≤ f ∧ f ≤ 9999) ∧ (u = -1 ∨ (0 ≤ u ∧ u ≤ 9999) ∧ f + 0 ≤ u)))]) (d' := 1) (av := [gI f, gI u, gI 0]) ms_mX12_areDays st_mX12_areDays lk_X12_292 rfl rfl (Nat.le_of_ble_eq_true rfl) (Nat.le_of_ble_eq_true rfl) dX12_post_28 rfl rfl (mo_areDays (gUp σ 133 0 0) f u 0 (by decide)) ?_
      refine v_if_neB (pc' := 34) (t := 37) dX12_post_31 rfl rfl (fun c_31 => ?_) (fun c_31 => ?_)
      · skip
        refine w_aload_n (pc' := 38) (i := 0) (by rfl) (by rfl) dX12_post_37 rfl ?_
        refine v_getI (pc' := 41) (ji := 26) rfl fg_X12_305 kd_133 dX12_post_38 rfl ?_
        show Wp _ _ _ _ _ _ [gI (σ 133 26)]
        rw [hI.f26]
        refine w_bipush (pc' := 43) (by decide) (by decide) dX12_post_41 rfl ?_
        refine w_icmp_ne (pc' := 46) (t := 49) dX12_post_43 rfl rfl (fun c_43 => ?_) (fun c_43 => ?_)
        · skip
          refine w_aload_n (pc' := 50) (i := 0) (by rfl) (by rfl) dX12_post_49 rfl ?_
          refine w_getS (pc' := 53) (q := 148) fg_X12_57 kd_133 sf_X12_20 gr_133_20 dX12_post_50 rfl ?_
          refine w_aload_n (pc' := 54) (i := 0) (by rfl) (by rfl) dX12_post_53 rfl ?_
          refine v_getI (pc' := 57) (ji := 26) rfl fg_X12_305 kd_133 dX12_post_54 rfl ?_
          show Wp _ _ _ _ _ _ [gI (σ 133 26), gR 148]
          rw [hI.f26]
          refine w_iload_n (pc' := 58) (i := 1) (by rfl) (by rfl) dX12_post_57 rfl ?_
          refine w_iast (pc' := 59) kd_148 (by omega) (by omega) dX12_post_58 rfl ?_
          refine w_aload_n (pc' := 60) (i := 0) (by rfl) (by rfl) dX12_post_59 rfl ?_
          refine w_getS (pc' := 63) (q := 149) fg_X12_60 kd_133 sf_X12_21 gr_133_21 dX12_post_60 rfl ?_
          refine w_aload_n (pc' := 64) (i := 0) (by rfl) (by rfl) dX12_post_63 rfl ?_
          refine v_getI (pc' := 67) (ji := 26) rfl fg_X12_305 kd_133 dX12_post_64 rfl ?_
          show Wp _ _ _ _ _ _ [gI (σ 133 26), gR 149]
          rw [hI.f26]
          refine w_iload_n (pc' := 68) (i := 2) (by rfl) (by rfl) dX12_post_67 rfl ?_
          refine w_iast (pc' := 69) kd_149 (by omega) (by omega) dX12_post_68 rfl ?_
          refine w_aload_n (pc' := 70) (i := 0) (by rfl) (by rfl) dX12_post_69 rfl ?_
          refine w_getS (pc' := 73) (q := 150) fg_X12_63 kd_133 sf_X12_22 gr_133_22 dX12_post_70 rfl ?_
          refine w_aload_n (pc' := 74) (i := 0) (by rfl) (by rfl) dX12_post_73 rfl ?_
          refine v_getI (pc' := 77) (ji := 26) rfl fg_X12_305 kd_133 dX12_post_74 rfl ?_
          show Wp _ _ _ _ _ _ [gI (σ 133 26), gR 150]
          rw [hI.f26]
          refine w_iload_n (pc' := 78) (i := 3) (by rfl) (by rfl) dX12_post_77 rfl ?_
          refine w_iast (pc' := 79) kd_150 (by omega) (by omega) dX12_post_78 rfl ?_
          refine w_aload_n (pc' := 80) (i := 0) (by rfl) (by rfl) dX12_post_79 rfl ?_
          refine w_getS (pc' := 83) (q := 151) fg_X12_66 kd_133 sf_X12_23 gr_133_23 dX12_post_80 rfl ?_
          refine w_aload_n (pc' := 84) (i := 0) (by rfl) (by rfl) dX12_post_83 rfl ?_
          refine v_getI (pc' := 87) (ji := 26) rfl fg_X12_305 kd_133 dX12_post_84 rfl ?_
          show Wp _ _ _ _ _ _ [gI (σ 133 26), gR 151]
          rw [hI.f26]
          refine w_iload (pc' := 89) (by rfl) dX12_post_87 rfl ?_
          have hj_101 : Wp mX12_post 30 (rE (gI (if ((0 ≤ a ∧ a < σ 3 2) ∧ σ 4 a = 0) ∧ ((0 ≤ b ∧ b < σ 3 2) ∧ σ 4 b ≠ 0) then if ((0 ≤ f ∧ f ≤ 9999) ∧ (u = -1 ∨ (0 ≤ u ∧ u ≤ 9999) ∧ f + 0 ≤ u)) then -5 else -3 else -2)) (gUp σ 133 0 0)) (gUp (gUp (gUp (gUp σ 133 0 0) 148 (σ 34 6) a) 149 (σ 34 6) b) 150 (σ 34 6) f) 101 [gR 133, gI a, gI b, gI f, gI u] [gI (ev u), gI (σ 34 6), gR 151] := by
            refine w_iast (pc' := 102) kd_151 (by omega) (by omega) dX12_post_101 rfl ?_
            refine w_aload_n (pc' := 103) (i := 0) (by rfl) (by rfl) dX12_post_102 rfl ?_
            refine w_getS (pc' := 106) (q := 152) fg_X12_69 kd_133 sf_X12_24 gr_133_24 dX12_post_103 rfl ?_
            refine w_aload_n (pc' := 107) (i := 0) (by rfl) (by rfl) dX12_post_106 rfl ?_
            refine v_getI (pc' := 110) (ji := 26) rfl fg_X12_305 kd_133 dX12_post_107 rfl ?_
            show Wp _ _ _ _ _ _ [gI (σ 133 26), gR 152]
            rw [hI.f26]
            refine w_aload_n (pc' := 111) (i := 0) (by rfl) (by rfl) dX12_post_110 rfl ?_
            refine v_getI (pc' := 114) (ji := 3) rfl fg_X12_258 kd_133 dX12_post_111 rfl ?_
            show Wp _ _ _ _ _ _ [gI (σ 133 3), gI (σ 34 6), gR 152]
            rw [hI.f3]
            refine w_iast (pc' := 115) kd_152 (by omega) (by omega) dX12_post_114 rfl ?_
            refine w_aload_n (pc' := 116) (i := 0) (by rfl) (by rfl) dX12_post_115 rfl ?_
            refine w_dup (pc' := 117) dX12_post_116 rfl ?_
            refine v_getI (pc' := 120) (ji := 26) rfl fg_X12_305 kd_133 dX12_post_117 rfl ?_
            show Wp _ _ _ _ _ _ [gI (σ 133 26), gR 133]
            rw [hI.f26]
            refine w_iconst (pc' := 121) (by decide) dX12_post_120 rfl ?_
            refine v_iadd (pc' := 122) (by omega) dX12_post_121 rfl ?_
            refine v_putI (pc' := 125) (ji := 26) rfl fp_X12_305 kd_133 sf_X12_26 dX12_post_122 rfl ?_
            refine w_aload_n (pc' := 126) (i := 0) (by rfl) (by rfl) dX12_post_125 rfl ?_
            refine v_getI (pc' := 129) (ji := 26) rfl fg_X12_305 kd_133 dX12_post_126 rfl ?_
            show Wp _ _ _ _ _ _ [gI ((σ 34 6) + 1)]
            refine w_iconst (pc' := 130) (by decide) dX12_post_129 rfl ?_
            refine v_isub (pc' := 131) (by omega) dX12_post_130 rfl ?_
            refine v_ireturn rfl dX12_post_131 ?_
            first
              | (exfalso; omega)
              | exact ⟨(by first | rfl | exact congrArg gI (by omega) | exact congrArg gI (gb_t (by omega)) | exact congrArg gI (gb_f (by omega)) | (refine congrArg gI ?_; (repeat' split) <;> omega)), rfl⟩
          refine w_iconst (pc' := 90) (by decide) dX12_post_89 rfl ?_
          refine w_icmp_ne (pc' := 93) (t := 99) dX12_post_90 rfl rfl (fun c_90 => ?_) (fun c_90 => ?_)
          · skip
            refine w_iload (pc' := 101) (by rfl) dX12_post_99 rfl ?_
            exact Wp.stI (by first | (exfalso; omega) | (unfold ev; first | (rw [if_pos (by omega)]) | (rw [if_neg (by omega)]))) hj_101
          · skip
            refine w_ldc_w (pc' := 96) (by decide) ct_X12_282 dX12_post_93 rfl ?_
            refine w_goto (pc' := 101) dX12_post_96 rfl ?_
            exact Wp.stI (by first | (exfalso; omega) | (unfold ev; first | (rw [if_pos (by omega)]) | (rw [if_neg (by omega)]))) hj_101
        · skip
          refine w_bipush (pc' := 48) (by decide) (by decide) dX12_post_46 rfl ?_
          refine v_ireturn rfl dX12_post_48 ?_
          first
            | (exfalso; omega)
            | exact ⟨(by first | rfl | exact congrArg gI (by omega) | exact congrArg gI (gb_t (by omega)) | exact congrArg gI (gb_f (by omega)) | (refine congrArg gI ?_; (repeat' split) <;> omega)), rfl⟩
      · skip
        refine w_bipush (pc' := 36) (by decide) (by decide) dX12_post_34 rfl ?_
        refine v_ireturn rfl dX12_post_36 ?_
        first
          | (exfalso; omega)
          | exact ⟨(by first | rfl | exact congrArg gI (by omega) | exact congrArg gI (gb_t (by omega)) | exact congrArg gI (gb_f (by omega)) | (refine congrArg gI ?_; (repeat' split) <;> omega)), rfl⟩
    · skip
      refine w_bipush (pc' := 23) (by decide) (by decide) dX12_post_21 rfl ?_
      refine v_ireturn rfl dX12_post_23 ?_
      first
        | (exfalso; omega)
        | exact ⟨(by first | rfl | exact congrArg gI (by omega) | exact congrArg gI (gb_t (by omega)) | exact congrArg gI (gb_f (by omega)) | (refine congrArg gI ?_; (repeat' split) <;> omega)), rfl⟩
theorem i_post {σ : gH} (hI : Inv σ) (a b f u : Int)  (hP : (((0 ≤ a ∧ a < σ 3 2) ∧ σ 4 a = 0) ∧ ((0 ≤ b ∧ b < σ 3 2) ∧ σ 4 b ≠ 0)) ∧ ((0 ≤ f ∧ f ≤ 9999) ∧ (u = -1 ∨ (0 ≤ u ∧ u ≤ 9999) ∧ f + 0 ≤ u)) ∧ σ 34 6 < 60) : Inv (gUp (gUp (gUp (gUp (gUp (gUp (gUp (gUp (gUp (gUp (gUp (gUp (gUp (gUp σ 35 (σ 34 6) a) 36 (σ 34 6) b) 37 (σ 34 6) 0) 38 (σ 34 6) f) 39 (σ 34 6) u) 40 (σ 34 6) (σ 0 4)) 34 6 (σ 34 6 + 1)) 133 0 0) 148 (σ 34 6) a) 149 (σ 34 6) b) 150 (σ 34 6) f) 151 (σ 34 6) (ev u)) 152 (σ 34 6) (σ 0 4)) 133 26 ((σ 34 6) + 1)) := by
  refine ⟨⟨⟨hI.f.day, hI.f.tape, hI.f.outs, hI.f.party, hI.f.own, hI.f.kin, ?_, hI.f.gift, hI.f.worth, hI.f.mem, hI.f.mat, hI.f.vote, hI.f.ent⟩, hI.law, hI.ord⟩, hI.2.1, hI.mod⟩
  have hS := hI.f.post
  refine ⟨?_, ?_, ?_, fun i h0 h1 => ?_⟩
  · exact rfl
  · show 0 ≤ σ 34 6 + 1
    have := hS.2.1
    omega
  · show σ 34 6 + 1 ≤ 60
    omega
  · have h2 : i < σ 34 6 + 1 := h1
    show (if i = σ 34 6 then a else σ 148 i) = (if i = σ 34 6 then a else σ 35 i) ∧ (if i = σ 34 6 then b else σ 149 i) = (if i = σ 34 6 then b else σ 36 i) ∧ (if i = σ 34 6 then f else σ 150 i) = (if i = σ 34 6 then f else σ 38 i) ∧ (if i = σ 34 6 then ev u else σ 151 i) = ev ((if i = σ 34 6 then u else σ 39 i)) ∧ (if i = σ 34 6 then σ 0 4 else σ 152 i) = (if i = σ 34 6 then σ 0 4 else σ 40 i) ∧ isPe σ ((if i = σ 34 6 then a else σ 35 i)) ∧ isHo σ ((if i = σ 34 6 then b else σ 36 i)) ∧ okSpan ((if i = σ 34 6 then f else σ 38 i)) ((if i = σ 34 6 then u else σ 39 i)) 0 ∧ isDy ((if i = σ 34 6 then σ 0 4 else σ 40 i))
    by_cases hi : i = σ 34 6
    · simp only [if_pos hi]
      exact ⟨trivial, trivial, trivial, trivial, trivial, hP.1.1, hP.1.2, hP.2.1, hI.f.day.2.1, hI.f.day.2.2⟩
    · simp only [if_neg hi]
      exact hS.2.2.2 i h0 (by omega)
theorem ci_post (a b f u : Int)  : CI Inv mX11_post mX12_post [gI a, gI b, gI f, gI u] := CI_reg (fun σ => (((0 ≤ a ∧ a < σ 3 2) ∧ σ 4 a = 0) ∧ ((0 ≤ b ∧ b < σ 3 2) ∧ σ 4 b ≠ 0)) ∧ ((0 ≤ f ∧ f ≤ 9999) ∧ (u = -1 ∨ (0 ≤ u ∧ u ≤ 9999) ∧ f + 0 ≤ u)) ∧ σ 34 6 < 60) (fun σ => σ 34 6) (fun σ => if ((0 ≤ a ∧ a < σ 3 2) ∧ σ 4 a = 0) ∧ ((0 ≤ b ∧ b < σ 3 2) ∧ σ 4 b ≠ 0) then if ((0 ≤ f ∧ f ≤ 9999) ∧ (u = -1 ∨ (0 ≤ u ∧ u ≤ 9999) ∧ f + 0 ≤ u)) then -5 else -3 else -2) (fun σ => gUp (gUp (gUp (gUp (gUp (gUp (gUp σ 35 (σ 34 6) a) 36 (σ 34 6) b) 37 (σ 34 6) 0) 38 (σ 34 6) f) 39 (σ 34 6) u) 40 (σ 34 6) (σ 0 4)) 34 6 (σ 34 6 + 1)) (fun σ => σ) (fun σ => gUp (gUp (gUp (gUp (gUp (gUp (gUp (gUp (gUp (gUp (gUp (gUp (gUp (gUp σ 35 (σ 34 6) a) 36 (σ 34 6) b) 37 (σ 34 6) 0) 38 (σ 34 6) f) 39 (σ 34 6) u) 40 (σ 34 6) (σ 0 4)) 34 6 (σ 34 6 + 1)) 133 0 0) 148 (σ 34 6) a) 149 (σ 34 6) b) 150 (σ 34 6) f) 151 (σ 34 6) (ev u)) 152 (σ 34 6) (σ 0 4)) 133 26 ((σ 34 6) + 1)) (fun σ => gUp σ 133 0 0) (fun σ hI => x_post hI a b f u ) (fun σ hI hP => m_postT hI a b f u  hP) (fun σ hI hP => m_postF hI a b f u  hP) (fun σ hI hP => i_post hI a b f u  hP) (fun σ hI _ => hI.thrown)
