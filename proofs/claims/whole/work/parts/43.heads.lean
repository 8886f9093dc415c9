/-! the heads: the class (gen/mod_heads.py) -/
theorem kh_firstArrow (σ : gH) (x : Int) (h : 0 ≤ x ∧ x < 60) : Mt mX7_firstArrow 0 [gR 14, gI x] σ (rE (gI (σ 23 x)) σ) := by
  refine Mt.walk (ls := [gR 14, gI x]) pn_X7 rfl (fun _ _ h => by cases h.1) (Nat.le_of_ble_eq_true rfl) rfl ?_
  refine w_iload_n (pc' := 1) (i := 1) (by rfl) (by rfl) dX7_firstArrow_0 rfl ?_
  refine w_if_lt (pc' := 4) (t := 19) dX7_firstArrow_1 rfl rfl (fun c_1 => ?_) (fun c_1 => ?_)
  · skip
    refine w_iconst (pc' := 20) (by decide) dX7_firstArrow_19 rfl ?_
    refine v_ireturn rfl dX7_firstArrow_20 ?_
    first | (exfalso; omega) | exact ⟨rfl, rfl⟩
  · skip
    refine w_iload_n (pc' := 5) (i := 1) (by rfl) (by rfl) dX7_firstArrow_4 rfl ?_
    refine w_bipush (pc' := 7) (by decide) (by decide) dX7_firstArrow_5 rfl ?_
    refine w_icmp_ge (pc' := 10) (t := 19) dX7_firstArrow_7 rfl rfl (fun c_7 => ?_) (fun c_7 => ?_)
    · skip
      refine w_iconst (pc' := 20) (by decide) dX7_firstArrow_19 rfl ?_
      refine v_ireturn rfl dX7_firstArrow_20 ?_
      first | (exfalso; omega) | exact ⟨rfl, rfl⟩
    · skip
      refine w_aload_n (pc' := 11) (i := 0) (by rfl) (by rfl) dX7_firstArrow_10 rfl ?_
      refine w_getS (pc' := 14) (q := 23) fg_X7_24 kd_14 sf_X7_2 gr_14_2 dX7_firstArrow_11 rfl ?_
      refine w_iload_n (pc' := 15) (i := 1) (by rfl) (by rfl) dX7_firstArrow_14 rfl ?_
      refine w_iald (pc' := 16) kd_23 (by omega) (by omega) dX7_firstArrow_15 rfl ?_
      refine w_goto (pc' := 20) dX7_firstArrow_16 rfl ?_
      refine v_ireturn rfl dX7_firstArrow_20 ?_
      first | (exfalso; omega) | exact ⟨rfl, rfl⟩
theorem kh_pastArrows (σ : gH) (x : Int) (h : 0 ≤ x ∧ x < 60) : Mt mX7_pastArrows 0 [gR 14, gI x] σ (rE (gI (σ 23 (x + 1))) σ) := by
  refine Mt.walk (ls := [gR 14, gI x]) pn_X7 rfl (fun _ _ h => by cases h.1) (Nat.le_of_ble_eq_true rfl) rfl ?_
  refine w_iload_n (pc' := 1) (i := 1) (by rfl) (by rfl) dX7_pastArrows_0 rfl ?_
  refine w_if_lt (pc' := 4) (t := 21) dX7_pastArrows_1 rfl rfl (fun c_1 => ?_) (fun c_1 => ?_)
  · skip
    refine w_iconst (pc' := 22) (by decide) dX7_pastArrows_21 rfl ?_
    refine v_ireturn rfl dX7_pastArrows_22 ?_
    first | (exfalso; omega) | exact ⟨rfl, rfl⟩
  · skip
    refine w_iload_n (pc' := 5) (i := 1) (by rfl) (by rfl) dX7_pastArrows_4 rfl ?_
    refine w_bipush (pc' := 7) (by decide) (by decide) dX7_pastArrows_5 rfl ?_
    refine w_icmp_ge (pc' := 10) (t := 21) dX7_pastArrows_7 rfl rfl (fun c_7 => ?_) (fun c_7 => ?_)
    · skip
      refine w_iconst (pc' := 22) (by decide) dX7_pastArrows_21 rfl ?_
      refine v_ireturn rfl dX7_pastArrows_22 ?_
      first | (exfalso; omega) | exact ⟨rfl, rfl⟩
    · skip
      refine w_aload_n (pc' := 11) (i := 0) (by rfl) (by rfl) dX7_pastArrows_10 rfl ?_
      refine w_getS (pc' := 14) (q := 23) fg_X7_24 kd_14 sf_X7_2 gr_14_2 dX7_pastArrows_11 rfl ?_
      refine w_iload_n (pc' := 15) (i := 1) (by rfl) (by rfl) dX7_pastArrows_14 rfl ?_
      refine w_iconst (pc' := 16) (by decide) dX7_pastArrows_15 rfl ?_
      refine v_iadd (pc' := 17) (by omega) dX7_pastArrows_16 rfl ?_
      refine w_iald (pc' := 18) kd_23 (by omega) (by omega) dX7_pastArrows_17 rfl ?_
      refine w_goto (pc' := 22) dX7_pastArrows_18 rfl ?_
      refine v_ireturn rfl dX7_pastArrows_22 ?_
      first | (exfalso; omega) | exact ⟨rfl, rfl⟩
theorem kh_targetOf (σ : gH) (x : Int) (h : 0 ≤ x ∧ x < 200) : Mt mX7_targetOf 0 [gR 14, gI x] σ (rE (gI (σ 24 x)) σ) := by
  refine Mt.walk (ls := [gR 14, gI x]) pn_X7 rfl (fun _ _ h => by cases h.1) (Nat.le_of_ble_eq_true rfl) rfl ?_
  refine w_iload_n (pc' := 1) (i := 1) (by rfl) (by rfl) dX7_targetOf_0 rfl ?_
  refine w_if_lt (pc' := 4) (t := 20) dX7_targetOf_1 rfl rfl (fun c_1 => ?_) (fun c_1 => ?_)
  · skip
    refine w_iconst (pc' := 21) (by decide) dX7_targetOf_20 rfl ?_
    refine v_ireturn rfl dX7_targetOf_21 ?_
    first | (exfalso; omega) | exact ⟨rfl, rfl⟩
  · skip
    refine w_iload_n (pc' := 5) (i := 1) (by rfl) (by rfl) dX7_targetOf_4 rfl ?_
    refine w_sipush (pc' := 8) (by decide) (by decide) dX7_targetOf_5 rfl ?_
    refine w_icmp_ge (pc' := 11) (t := 20) dX7_targetOf_8 rfl rfl (fun c_8 => ?_) (fun c_8 => ?_)
    · skip
      refine w_iconst (pc' := 21) (by decide) dX7_targetOf_20 rfl ?_
      refine v_ireturn rfl dX7_targetOf_21 ?_
      first | (exfalso; omega) | exact ⟨rfl, rfl⟩
    · skip
      refine w_aload_n (pc' := 12) (i := 0) (by rfl) (by rfl) dX7_targetOf_11 rfl ?_
      refine w_getS (pc' := 15) (q := 24) fg_X7_27 kd_14 sf_X7_3 gr_14_3 dX7_targetOf_12 rfl ?_
      refine w_iload_n (pc' := 16) (i := 1) (by rfl) (by rfl) dX7_targetOf_15 rfl ?_
      refine w_iald (pc' := 17) kd_24 (by omega) (by omega) dX7_targetOf_16 rfl ?_
      refine w_goto (pc' := 21) dX7_targetOf_17 rfl ?_
      refine v_ireturn rfl dX7_targetOf_21 ?_
      first | (exfalso; omega) | exact ⟨rfl, rfl⟩
theorem kh_partOn (σ : gH) (x : Int) (h : 0 ≤ x ∧ x < 200) : Mt mX7_partOn 0 [gR 14, gI x] σ (rE (gI (σ 25 x)) σ) := by
  refine Mt.walk (ls := [gR 14, gI x]) pn_X7 rfl (fun _ _ h => by cases h.1) (Nat.le_of_ble_eq_true rfl) rfl ?_
  refine w_iload_n (pc' := 1) (i := 1) (by rfl) (by rfl) dX7_partOn_0 rfl ?_
  refine w_if_lt (pc' := 4) (t := 20) dX7_partOn_1 rfl rfl (fun c_1 => ?_) (fun c_1 => ?_)
  · skip
    refine w_iconst (pc' := 21) (by decide) dX7_partOn_20 rfl ?_
    refine v_ireturn rfl dX7_partOn_21 ?_
    first | (exfalso; omega) | exact ⟨rfl, rfl⟩
  · skip
    refine w_iload_n (pc' := 5) (i := 1) (by rfl) (by rfl) dX7_partOn_4 rfl ?_
    refine w_sipush (pc' := 8) (by decide) (by decide) dX7_partOn_5 rfl ?_
    refine w_icmp_ge (pc' := 11) (t := 20) dX7_partOn_8 rfl rfl (fun c_8 => ?_) (fun c_8 => ?_)
    · skip
      refine w_iconst (pc' := 21) (by decide) dX7_partOn_20 rfl ?_
      refine v_ireturn rfl dX7_partOn_21 ?_
      first | (exfalso; omega) | exact ⟨rfl, rfl⟩
    · skip
      refine w_aload_n (pc' := 12) (i := 0) (by rfl) (by rfl) dX7_partOn_11 rfl ?_
      refine w_getS (pc' := 15) (q := 25) fg_X7_30 kd_14 sf_X7_4 gr_14_4 dX7_partOn_12 rfl ?_
      refine w_iload_n (pc' := 16) (i := 1) (by rfl) (by rfl) dX7_partOn_15 rfl ?_
      refine w_iald (pc' := 17) kd_25 (by omega) (by omega) dX7_partOn_16 rfl ?_
      refine w_goto (pc' := 21) dX7_partOn_17 rfl ?_
      refine v_ireturn rfl dX7_partOn_21 ?_
      first | (exfalso; omega) | exact ⟨rfl, rfl⟩
set_option maxHeartbeats 4000000 in
theorem k_controlledBy {σ : gH} {A : Int → Int → Int} (hA : ARW (σ 23) (σ 24) (σ 25) A) (hp : ∀ c f, 0 ≤ A c f ∧ A c f ≤ 10000) (x : Int) (hx : 0 ≤ x ∧ x < 60) : Mt mX7_controlledBy 1 [gR 14, gI x] σ (fun v σ' => ∃ z G Q, v = gJ z ∧ σ' = gUr (gUr σ 28 G) 29 Q ∧ ∀ f, 0 ≤ f → f < 60 → (bitI z f ↔ ctl A x f = true)) := by
  refine Mt.walk (ls := [gR 14, gI x, gX 1, gX 1, gX 1, gX 1, gX 1, gX 1, gX 1]) pn_X7 rfl (fun _ _ h => by obtain ⟨_, _, _, h, _⟩ := h; cases h) (Nat.le_of_ble_eq_true rfl) rfl ?_
  refine w_aload_n (pc' := 1) (i := 0) (by rfl) (by rfl) dX7_controlledBy_0 rfl ?_
  refine w_getS (pc' := 4) (q := 28) fg_X7_47 kd_14 sf_X7_10 gr_14_10 dX7_controlledBy_1 rfl ?_
  refine w_iconst (pc' := 5) (by decide) dX7_controlledBy_4 rfl ?_
  refine v_callSE (pc' := 8) (st' := []) (d' := 0) (av := [gR 28, gI 0]) ms_mJ7_fill_53178 st_mJ7_fill_53178 lk_X7_110 rfl rfl (Nat.le_of_ble_eq_true rfl) (Nat.le_of_ble_eq_true rfl) dX7_controlledBy_5 rfl rfl (k_fillI (x := 28) (n := 60) kd_28 (by decide) σ 0) ?_
  refine w_lconst (n := 0) (pc' := 9) (by decide) (by decide) dX7_controlledBy_8 rfl ?_
  refine w_lstore_n (pc' := 10) (i := 2) (ls' := [gR 14, gI x, gJ 0, gX 1, gX 1, gX 1, gX 1, gX 1, gX 1]) (by rfl) (by decide) (by rfl) dX7_controlledBy_9 rfl ?_
  refine w_iconst (pc' := 11) (by decide) dX7_controlledBy_10 rfl ?_
  refine w_istore (pc' := 13) (ls' := [gR 14, gI x, gJ 0, gX 1, gI 1, gX 1, gX 1, gX 1, gX 1]) (by decide) (by rfl) dX7_controlledBy_11 rfl ?_
  refine w_aload_n (pc' := 14) (i := 0) (by rfl) (by rfl) dX7_controlledBy_13 rfl ?_
  refine w_getS (pc' := 17) (q := 29) fg_X7_50 kd_14 sf_X7_11 gr_14_11 dX7_controlledBy_14 rfl ?_
  refine w_iconst (pc' := 18) (by decide) dX7_controlledBy_17 rfl ?_
  refine w_iload_n (pc' := 19) (i := 1) (by rfl) (by rfl) dX7_controlledBy_18 rfl ?_
  refine w_iast (pc' := 20) kd_29 (by omega) (by omega) dX7_controlledBy_19 rfl ?_
  refine w_iconst (pc' := 21) (by decide) dX7_controlledBy_20 rfl ?_
  refine w_istore (pc' := 23) (ls' := [gR 14, gI x, gJ 0, gX 1, gI 1, gI 0, gX 1, gX 1, gX 1]) (by decide) (by rfl) dX7_controlledBy_21 rfl ?_
  have hl_23 : ∀ (mm : Nat) (z w k : Int) (G Q : Int → Int), (60 - k).toNat = mm → (CB A x z w k G Q) → Wp mX7_controlledBy 1 (fun v σ' => ∃ z G Q, v = gJ z ∧ σ' = gUr (gUr σ 28 G) 29 Q ∧ ∀ f, 0 ≤ f → f < 60 → (bitI z f ↔ ctl A x f = true)) (gUr (gUr σ 28 G) 29 Q) 23 [gR 14, gI x, gJ z, gX 1, gI w, gI k, gX 1, gX 1, gX 1] [] := by
    intro m_23
    induction m_23 using Nat.strongRecOn with
    | _ m_23 ih_23 =>
      intro z w k G Q hmeas_23 hc
      have hk0 := hc.2.2.1
      have hw1 := hc.2.1
      have hw0 := hc.1
      have hq1 : k < w → 0 ≤ Q k ∧ Q k < 60 := hc.2.2.2.2.2.1 k hk0
      have hS : k < w → 0 ≤ σ 23 (Q k) ∧ σ 23 (Q k) ≤ σ 23 (Q k + 1) ∧ σ 23 (Q k + 1) ≤ 200 := fun h => hA.2.1 (Q k) (hq1 h).1 (hq1 h).2
      refine w_iload (pc' := 25) (by rfl) dX7_controlledBy_23 rfl ?_
      refine w_iload (pc' := 27) (by rfl) dX7_controlledBy_25 rfl ?_
      refine w_icmp_ge (pc' := 30) (t := 174) dX7_controlledBy_27 rfl rfl (fun c_27 => ?_) (fun c_27 => ?_)
      · skip
        refine w_lload_n (pc' := 175) (i := 2) (by rfl) (by rfl) dX7_controlledBy_174 rfl ?_
        refine w_lreturn rfl dX7_controlledBy_175 ?_
        refine ⟨z, G, Q, rfl, rfl, fun f a b => ?_⟩
        rw [ctl_iff]
        exact hc.fin (fun c f => (hp c f).1) (by omega) f a b
      · skip
        refine w_iload (pc' := 32) (by rfl) dX7_controlledBy_30 rfl ?_
        refine w_bipush (pc' := 34) (by decide) (by decide) dX7_controlledBy_32 rfl ?_
        refine w_icmp_ge (pc' := 37) (t := 174) dX7_controlledBy_34 rfl rfl (fun c_34 => ?_) (fun c_34 => ?_)
        · skip
          refine w_lload_n (pc' := 175) (i := 2) (by rfl) (by rfl) dX7_controlledBy_174 rfl ?_
          refine w_lreturn rfl dX7_controlledBy_175 ?_
          refine ⟨z, G, Q, rfl, rfl, fun f a b => ?_⟩
          rw [ctl_iff]
          exact hc.fin (fun c f => (hp c f).1) (by omega) f a b
        · skip
          refine w_aload_n (pc' := 38) (i := 0) (by rfl) (by rfl) dX7_controlledBy_37 rfl ?_
          refine w_aload_n (pc' := 39) (i := 0) (by rfl) (by rfl) dX7_controlledBy_38 rfl ?_
          refine w_getS (pc' := 42) (q := 29) fg_X7_50 kd_14 sf_X7_11 gr_14_11 dX7_controlledBy_39 rfl ?_
          refine w_iload (pc' := 44) (by rfl) dX7_controlledBy_42 rfl ?_
          refine w_iald (pc' := 45) kd_29 (by omega) (by omega) dX7_controlledBy_44 rfl ?_
          show Wp _ _ _ _ _ _ [gI (Q k), gR 14]
          refine v_callVE (pc' := 48) (st' := [gI (σ 23 ((Q k) + 1))]) (d' := 0) (av := [gI (Q k)]) mi_mX7_pastArrows lk_X7_116 rfl ci_X7 kd_14 rfl (Nat.le_of_ble_eq_true rfl) (Nat.le_of_ble_eq_true rfl) dX7_controlledBy_45 rfl rfl (kh_pastArrows (gUr (gUr σ 28 G) 29 Q) (Q k) (by omega)) ?_
          refine w_istore (pc' := 50) (ls' := [gR 14, gI x, gJ z, gX 1, gI w, gI k, gI (σ 23 ((Q k) + 1)), gX 1, gX 1]) (by decide) (by rfl) dX7_controlledBy_48 rfl ?_
          refine w_aload_n (pc' := 51) (i := 0) (by rfl) (by rfl) dX7_controlledBy_50 rfl ?_
          refine w_aload_n (pc' := 52) (i := 0) (by rfl) (by rfl) dX7_controlledBy_51 rfl ?_
          refine w_getS (pc' := 55) (q := 29) fg_X7_50 kd_14 sf_X7_11 gr_14_11 dX7_controlledBy_52 rfl ?_
          refine w_iload (pc' := 57) (by rfl) dX7_controlledBy_55 rfl ?_
          refine w_iald (pc' := 58) kd_29 (by omega) (by omega) dX7_controlledBy_57 rfl ?_
          show Wp _ _ _ _ _ _ [gI (Q k), gR 14]
          refine v_callVE (pc' := 61) (st' := [gI (σ 23 (Q k))]) (d' := 0) (av := [gI (Q k)]) mi_mX7_firstArrow lk_X7_119 rfl ci_X7 kd_14 rfl (Nat.le_of_ble_eq_true rfl) (Nat.le_of_ble_eq_true rfl) dX7_controlledBy_58 rfl rfl (kh_firstArrow (gUr (gUr σ 28 G) 29 Q) (Q k) (by omega)) ?_
          refine w_istore (pc' := 63) (ls' := [gR 14, gI x, gJ z, gX 1, gI w, gI k, gI (σ 23 ((Q k) + 1)), gI (σ 23 (Q k)), gX 1]) (by decide) (by rfl) dX7_controlledBy_61 rfl ?_
          have hl_63 : ∀ (mm : Nat) (z w a p : Int) (G Q : Int → Int), (200 - a).toNat = mm → (CBa (σ 23) (σ 24) A x z w k a G Q) → (p = σ 23 (Q k + 1)) → Wp mX7_controlledBy 1 (fun v σ' => ∃ z G Q, v = gJ z ∧ σ' = gUr (gUr σ 28 G) 29 Q ∧ ∀ f, 0 ≤ f → f < 60 → (bitI z f ↔ ctl A x f = true)) (gUr (gUr σ 28 G) 29 Q) 63 [gR 14, gI x, gJ z, gX 1, gI w, gI k, gI p, gI a, gX 1] [] := by
            intro m_63
            induction m_63 using Nat.strongRecOn with
            | _ m_63 ih_63 =>
              intro z w a p G Q hmeas_63 ha he
              have hb := ha.arrow hA
              have ha0 := ha.2.2.2.2.2.2.2.2.2.1
              have ha1 := ha.2.2.2.2.2.2.2.2.2.2.1
              have hw2 := ha.2.1
              have hkw := ha.2.2.2.1
              have hv := ha.val hA
              have hrm := ha.room hA
              have hq2 := ha.2.2.2.2.2.1 k hk0 hkw
              have hS2 := hA.2.1 (Q k) hq2.1 hq2.2
              have hpp := hp (Q k) (σ 24 a)
              have hsk := ha.skip hA
              have had := ha.add hA
              have hfi := ha.find hA (fun c f => (hp c f).1) hx
              refine w_iload (pc' := 65) (by rfl) dX7_controlledBy_63 rfl ?_
              refine w_iload (pc' := 67) (by rfl) dX7_controlledBy_65 rfl ?_
              refine w_icmp_ge (pc' := 70) (t := 168) dX7_controlledBy_67 rfl rfl (fun c_67 => ?_) (fun c_67 => ?_)
              · skip
                refine v_iinc (pc' := 171) (x := k) (ls' := [gR 14, gI x, gJ z, gX 1, gI w, gI (k + 1), gI p, gI a, gX 1]) (by omega) (by decide) (by rfl) (by rfl) dX7_controlledBy_168 rfl ?_
                refine w_goto (pc' := 23) dX7_controlledBy_171 rfl ?_
                refine Wp.lose (ls' := [gR 14, gI x, gJ z, gX 1, gI w, gI (k + 1), gX 1, gX 1, gX 1]) ⟨.inr rfl, ⟨.inr rfl, ⟨.inr rfl, ⟨.inr rfl, ⟨.inr rfl, ⟨.inr rfl, ⟨.inl rfl, ⟨.inl rfl, ⟨.inr rfl, trivial⟩⟩⟩⟩⟩⟩⟩⟩⟩ ?_
                exact ih_23 _ (by omega) z w (k + 1) G Q rfl (by exact CBa.out hA (by omega) ha)
              · skip
                refine w_aload_n (pc' := 71) (i := 0) (by rfl) (by rfl) dX7_controlledBy_70 rfl ?_
                refine w_iload (pc' := 73) (by rfl) dX7_controlledBy_71 rfl ?_
                refine v_callVE (pc' := 76) (st' := [gI (σ 24 a)]) (d' := 0) (av := [gI a]) mi_mX7_targetOf lk_X7_122 rfl ci_X7 kd_14 rfl (Nat.le_of_ble_eq_true rfl) (Nat.le_of_ble_eq_true rfl) dX7_controlledBy_73 rfl rfl (kh_targetOf (gUr (gUr σ 28 G) 29 Q) a (by omega)) ?_
                refine w_istore (pc' := 78) (ls' := [gR 14, gI x, gJ z, gX 1, gI w, gI k, gI p, gI a, gI (σ 24 a)]) (by decide) (by rfl) dX7_controlledBy_76 rfl ?_
                refine w_iload (pc' := 80) (by rfl) dX7_controlledBy_78 rfl ?_
                refine w_if_lt (pc' := 83) (t := 162) dX7_controlledBy_80 rfl rfl (fun c_80 => ?_) (fun c_80 => ?_)
                · skip
                  refine v_iinc (pc' := 165) (x := a) (ls' := [gR 14, gI x, gJ z, gX 1, gI w, gI k, gI p, gI (a + 1), gI (σ 24 a)]) (by omega) (by decide) (by rfl) (by rfl) dX7_controlledBy_162 rfl ?_
                  refine w_goto (pc' := 63) dX7_controlledBy_165 rfl ?_
                  refine Wp.lose (ls' := [gR 14, gI x, gJ z, gX 1, gI w, gI k, gI p, gI (a + 1), gX 1]) ⟨.inr rfl, ⟨.inr rfl, ⟨.inr rfl, ⟨.inr rfl, ⟨.inr rfl, ⟨.inr rfl, ⟨.inr rfl, ⟨.inr rfl, ⟨.inl rfl, trivial⟩⟩⟩⟩⟩⟩⟩⟩⟩ ?_
                  exact ih_63 _ (by omega) z w (a + 1) p G Q rfl (by first | (exfalso; omega) | exact hsk (by omega) (.inl (by omega)) | exact hsk (by omega) (.inr (cmpB.mp c_104)) | (rw [updI_eq] at c_133; first | exact had (by omega) (by omega) (fun h => cmpB.mpr h c_104) (by omega) | exact hfi (by omega) (by omega) (fun h => cmpB.mpr h c_104) (by omega) | (exfalso; have := hrm (by omega) (by omega) (fun h => cmpB.mpr h c_104); omega))) (by first | (exfalso; omega) | exact he | (rw [updI_ne (by omega)]; exact he) | (exfalso; have := hrm (by omega) (by omega) (fun h => cmpB.mpr h c_104); omega))
                · skip
                  refine w_iload (pc' := 85) (by rfl) dX7_controlledBy_83 rfl ?_
                  refine w_bipush (pc' := 87) (by decide) (by decide) dX7_controlledBy_85 rfl ?_
                  refine w_icmp_ge (pc' := 90) (t := 162) dX7_controlledBy_87 rfl rfl (fun c_87 => ?_) (fun c_87 => ?_)
                  · skip
                    refine v_iinc (pc' := 165) (x := a) (ls' := [gR 14, gI x, gJ z, gX 1, gI w, gI k, gI p, gI (a + 1), gI (σ 24 a)]) (by omega) (by decide) (by rfl) (by rfl) dX7_controlledBy_162 rfl ?_
                    refine w_goto (pc' := 63) dX7_controlledBy_165 rfl ?_
                    refine Wp.lose (ls' := [gR 14, gI x, gJ z, gX 1, gI w, gI k, gI p, gI (a + 1), gX 1]) ⟨.inr rfl, ⟨.inr rfl, ⟨.inr rfl, ⟨.inr rfl, ⟨.inr rfl, ⟨.inr rfl, ⟨.inr rfl, ⟨.inr rfl, ⟨.inl rfl, trivial⟩⟩⟩⟩⟩⟩⟩⟩⟩ ?_
                    exact ih_63 _ (by omega) z w (a + 1) p G Q rfl (by first | (exfalso; omega) | exact hsk (by omega) (.inl (by omega)) | exact hsk (by omega) (.inr (cmpB.mp c_104)) | (rw [updI_eq] at c_133; first | exact had (by omega) (by omega) (fun h => cmpB.mpr h c_104) (by omega) | exact hfi (by omega) (by omega) (fun h => cmpB.mpr h c_104) (by omega) | (exfalso; have := hrm (by omega) (by omega) (fun h => cmpB.mpr h c_104); omega))) (by first | (exfalso; omega) | exact he | (rw [updI_ne (by omega)]; exact he) | (exfalso; have := hrm (by omega) (by omega) (fun h => cmpB.mpr h c_104); omega))
                  · skip
                    refine w_iload (pc' := 92) (by rfl) dX7_controlledBy_90 rfl ?_
                    refine w_iload_n (pc' := 93) (i := 1) (by rfl) (by rfl) dX7_controlledBy_92 rfl ?_
                    refine w_icmp_eq (pc' := 96) (t := 162) dX7_controlledBy_93 rfl rfl (fun c_93 => ?_) (fun c_93 => ?_)
                    · skip
                      refine v_iinc (pc' := 165) (x := a) (ls' := [gR 14, gI x, gJ z, gX 1, gI w, gI k, gI p, gI (a + 1), gI (σ 24 a)]) (by omega) (by decide) (by rfl) (by rfl) dX7_controlledBy_162 rfl ?_
                      refine w_goto (pc' := 63) dX7_controlledBy_165 rfl ?_
                      refine Wp.lose (ls' := [gR 14, gI x, gJ z, gX 1, gI w, gI k, gI p, gI (a + 1), gX 1]) ⟨.inr rfl, ⟨.inr rfl, ⟨.inr rfl, ⟨.inr rfl, ⟨.inr rfl, ⟨.inr rfl, ⟨.inr rfl, ⟨.inr rfl, ⟨.inl rfl, trivial⟩⟩⟩⟩⟩⟩⟩⟩⟩ ?_
                      exact ih_63 _ (by omega) z w (a + 1) p G Q rfl (by first | (exfalso; omega) | exact hsk (by omega) (.inl (by omega)) | exact hsk (by omega) (.inr (cmpB.mp c_104)) | (rw [updI_eq] at c_133; first | exact had (by omega) (by omega) (fun h => cmpB.mpr h c_104) (by omega) | exact hfi (by omega) (by omega) (fun h => cmpB.mpr h c_104) (by omega) | (exfalso; have := hrm (by omega) (by omega) (fun h => cmpB.mpr h c_104); omega))) (by first | (exfalso; omega) | exact he | (rw [updI_ne (by omega)]; exact he) | (exfalso; have := hrm (by omega) (by omega) (fun h => cmpB.mpr h c_104); omega))
                    · skip
                      refine w_lload_n (pc' := 97) (i := 2) (by rfl) (by rfl) dX7_controlledBy_96 rfl ?_
                      refine w_iload (pc' := 99) (by rfl) dX7_controlledBy_97 rfl ?_
                      refine w_lshr (pc' := 100) dX7_controlledBy_99 rfl ?_
                      refine w_lconst (n := 1) (pc' := 101) (by decide) (by decide) dX7_controlledBy_100 rfl ?_
                      refine w_land (pc' := 102) dX7_controlledBy_101 rfl ?_
                      refine w_lconst (n := 0) (pc' := 103) (by decide) (by decide) dX7_controlledBy_102 rfl ?_
                      refine w_lcmp (pc' := 104) dX7_controlledBy_103 rfl ?_
                      refine w_if_ne (pc' := 107) (t := 162) dX7_controlledBy_104 rfl rfl (fun c_104 => ?_) (fun c_104 => ?_)
                      · skip
                        refine v_iinc (pc' := 165) (x := a) (ls' := [gR 14, gI x, gJ z, gX 1, gI w, gI k, gI p, gI (a + 1), gI (σ 24 a)]) (by omega) (by decide) (by rfl) (by rfl) dX7_controlledBy_162 rfl ?_
                        refine w_goto (pc' := 63) dX7_controlledBy_165 rfl ?_
                        refine Wp.lose (ls' := [gR 14, gI x, gJ z, gX 1, gI w, gI k, gI p, gI (a + 1), gX 1]) ⟨.inr rfl, ⟨.inr rfl, ⟨.inr rfl, ⟨.inr rfl, ⟨.inr rfl, ⟨.inr rfl, ⟨.inr rfl, ⟨.inr rfl, ⟨.inl rfl, trivial⟩⟩⟩⟩⟩⟩⟩⟩⟩ ?_
                        exact ih_63 _ (by omega) z w (a + 1) p G Q rfl (by first | (exfalso; omega) | exact hsk (by omega) (.inl (by omega)) | exact hsk (by omega) (.inr (cmpB.mp c_104)) | (rw [updI_eq] at c_133; first | exact had (by omega) (by omega) (fun h => cmpB.mpr h c_104) (by omega) | exact hfi (by omega) (by omega) (fun h => cmpB.mpr h c_104) (by omega) | (exfalso; have := hrm (by omega) (by omega) (fun h => cmpB.mpr h c_104); omega))) (by first | (exfalso; omega) | exact he | (rw [updI_ne (by omega)]; exact he) | (exfalso; have := hrm (by omega) (by omega) (fun h => cmpB.mpr h c_104); omega))
                      · skip
                        refine w_aload_n (pc' := 108) (i := 0) (by rfl) (by rfl) dX7_controlledBy_107 rfl ?_
                        refine w_getS (pc' := 111) (q := 28) fg_X7_47 kd_14 sf_X7_10 gr_14_10 dX7_controlledBy_108 rfl ?_
                        refine w_iload (pc' := 113) (by rfl) dX7_controlledBy_111 rfl ?_
                        refine w_dup2 (pc' := 114) dX7_controlledBy_113 rfl ?_
                        refine w_iald (pc' := 115) kd_28 (by omega) (by omega) dX7_controlledBy_114 rfl ?_
                        show Wp _ _ _ _ _ _ [gI (G (σ 24 a)), gI (σ 24 a), gR 28]
                        refine w_aload_n (pc' := 116) (i := 0) (by rfl) (by rfl) dX7_controlledBy_115 rfl ?_
                        refine w_iload (pc' := 118) (by rfl) dX7_controlledBy_116 rfl ?_
                        refine v_callVE (pc' := 121) (st' := [gI (σ 25 a), gI (G (σ 24 a)), gI (σ 24 a), gR 28]) (d' := 0) (av := [gI a]) mi_mX7_partOn lk_X7_125 rfl ci_X7 kd_14 rfl (Nat.le_of_ble_eq_true rfl) (Nat.le_of_ble_eq_true rfl) dX7_controlledBy_118 rfl rfl (kh_partOn (gUr (gUr σ 28 G) 29 Q) a (by omega)) ?_
                        refine v_iadd (pc' := 122) (by have h1 := hv (by omega) (by omega) (fun h => cmpB.mpr h c_104); have h2 := hb (by omega); have h3 := sumI_nonneg (f := fun j => A (Q j) (σ 24 a)) (n := k.toNat) (fun j _ _ => (hp _ _).1); omega) dX7_controlledBy_121 rfl ?_
                        refine w_iast (pc' := 123) kd_28 (by omega) (by omega) dX7_controlledBy_122 rfl ?_
                        refine Wp.heq (σ' := gUr (gUr σ 28 (updI G (σ 24 a) ((G (σ 24 a)) + (σ 25 a)))) 29 Q) ((gUp_cr (by decide)).trans (congrArg (fun z => gUr z 29 Q) gUp_row)) ?_
                        refine w_aload_n (pc' := 124) (i := 0) (by rfl) (by rfl) dX7_controlledBy_123 rfl ?_
                        refine w_getS (pc' := 127) (q := 28) fg_X7_47 kd_14 sf_X7_10 gr_14_10 dX7_controlledBy_124 rfl ?_
                        refine w_iload (pc' := 129) (by rfl) dX7_controlledBy_127 rfl ?_
                        refine w_iald (pc' := 130) kd_28 (by omega) (by omega) dX7_controlledBy_129 rfl ?_
                        show Wp _ _ _ _ _ _ [gI ((updI G (σ 24 a) ((G (σ 24 a)) + (σ 25 a))) (σ 24 a))]
                        refine w_sipush (pc' := 133) (by decide) (by decide) dX7_controlledBy_130 rfl ?_
                        refine w_icmp_le (pc' := 136) (t := 162) dX7_controlledBy_133 rfl rfl (fun c_133 => ?_) (fun c_133 => ?_)
                        · skip
                          refine v_iinc (pc' := 165) (x := a) (ls' := [gR 14, gI x, gJ z, gX 1, gI w, gI k, gI p, gI (a + 1), gI (σ 24 a)]) (by omega) (by decide) (by rfl) (by rfl) dX7_controlledBy_162 rfl ?_
                          refine w_goto (pc' := 63) dX7_controlledBy_165 rfl ?_
                          refine Wp.lose (ls' := [gR 14, gI x, gJ z, gX 1, gI w, gI k, gI p, gI (a + 1), gX 1]) ⟨.inr rfl, ⟨.inr rfl, ⟨.inr rfl, ⟨.inr rfl, ⟨.inr rfl, ⟨.inr rfl, ⟨.inr rfl, ⟨.inr rfl, ⟨.inl rfl, trivial⟩⟩⟩⟩⟩⟩⟩⟩⟩ ?_
                          exact ih_63 _ (by omega) z w (a + 1) p (updI G (σ 24 a) ((G (σ 24 a)) + (σ 25 a))) Q rfl (by first | (exfalso; omega) | exact hsk (by omega) (.inl (by omega)) | exact hsk (by omega) (.inr (cmpB.mp c_104)) | (rw [updI_eq] at c_133; first | exact had (by omega) (by omega) (fun h => cmpB.mpr h c_104) (by omega) | exact hfi (by omega) (by omega) (fun h => cmpB.mpr h c_104) (by omega) | (exfalso; have := hrm (by omega) (by omega) (fun h => cmpB.mpr h c_104); omega))) (by first | (exfalso; omega) | exact he | (rw [updI_ne (by omega)]; exact he) | (exfalso; have := hrm (by omega) (by omega) (fun h => cmpB.mpr h c_104); omega))
                        · skip
                          refine w_iload (pc' := 138) (by rfl) dX7_controlledBy_136 rfl ?_
                          refine w_bipush (pc' := 140) (by decide) (by decide) dX7_controlledBy_138 rfl ?_
                          refine w_icmp_ge (pc' := 143) (t := 162) dX7_controlledBy_140 rfl rfl (fun c_140 => ?_) (fun c_140 => ?_)
                          · skip
                            refine v_iinc (pc' := 165) (x := a) (ls' := [gR 14, gI x, gJ z, gX 1, gI w, gI k, gI p, gI (a + 1), gI (σ 24 a)]) (by omega) (by decide) (by rfl) (by rfl) dX7_controlledBy_162 rfl ?_
                            refine w_goto (pc' := 63) dX7_controlledBy_165 rfl ?_
                            refine Wp.lose (ls' := [gR 14, gI x, gJ z, gX 1, gI w, gI k, gI p, gI (a + 1), gX 1]) ⟨.inr rfl, ⟨.inr rfl, ⟨.inr rfl, ⟨.inr rfl, ⟨.inr rfl, ⟨.inr rfl, ⟨.inr rfl, ⟨.inr rfl, ⟨.inl rfl, trivial⟩⟩⟩⟩⟩⟩⟩⟩⟩ ?_
                            exact ih_63 _ (by omega) z w (a + 1) p (updI G (σ 24 a) ((G (σ 24 a)) + (σ 25 a))) Q rfl (by first | (exfalso; omega) | exact hsk (by omega) (.inl (by omega)) | exact hsk (by omega) (.inr (cmpB.mp c_104)) | (rw [updI_eq] at c_133; first | exact had (by omega) (by omega) (fun h => cmpB.mpr h c_104) (by omega) | exact hfi (by omega) (by omega) (fun h => cmpB.mpr h c_104) (by omega) | (exfalso; have := hrm (by omega) (by omega) (fun h => cmpB.mpr h c_104); omega))) (by first | (exfalso; omega) | exact he | (rw [updI_ne (by omega)]; exact he) | (exfalso; have := hrm (by omega) (by omega) (fun h => cmpB.mpr h c_104); omega))
                          · skip
                            refine w_lload_n (pc' := 144) (i := 2) (by rfl) (by rfl) dX7_controlledBy_143 rfl ?_
                            refine w_lconst (n := 1) (pc' := 145) (by decide) (by decide) dX7_controlledBy_144 rfl ?_
                            refine w_iload (pc' := 147) (by rfl) dX7_controlledBy_145 rfl ?_
                            refine w_lshl (pc' := 148) dX7_controlledBy_147 rfl ?_
                            refine w_lor (pc' := 149) dX7_controlledBy_148 rfl ?_
                            refine w_lstore_n (pc' := 150) (i := 2) (ls' := [gR 14, gI x, gJ (gB64 (fun a b => a ||| b) z (gS64 (fun a b => a <<< b) 1 (σ 24 a))), gX 1, gI w, gI k, gI p, gI a, gI (σ 24 a)]) (by rfl) (by decide) (by rfl) dX7_controlledBy_149 rfl ?_
                            refine w_aload_n (pc' := 151) (i := 0) (by rfl) (by rfl) dX7_controlledBy_150 rfl ?_
                            refine w_getS (pc' := 154) (q := 29) fg_X7_50 kd_14 sf_X7_11 gr_14_11 dX7_controlledBy_151 rfl ?_
                            refine w_iload (pc' := 156) (by rfl) dX7_controlledBy_154 rfl ?_
                            refine w_iload (pc' := 158) (by rfl) dX7_controlledBy_156 rfl ?_
                            refine w_iast (pc' := 159) kd_29 (by omega) (by omega) dX7_controlledBy_158 rfl ?_
                            refine Wp.heq (σ' := gUr (gUr σ 28 (updI G (σ 24 a) ((G (σ 24 a)) + (σ 25 a)))) 29 (updI Q w (σ 24 a))) gUp_row ?_
                            refine v_iinc (pc' := 162) (x := w) (ls' := [gR 14, gI x, gJ (gB64 (fun a b => a ||| b) z (gS64 (fun a b => a <<< b) 1 (σ 24 a))), gX 1, gI (w + 1), gI k, gI p, gI a, gI (σ 24 a)]) (by omega) (by decide) (by rfl) (by rfl) dX7_controlledBy_159 rfl ?_
                            refine v_iinc (pc' := 165) (x := a) (ls' := [gR 14, gI x, gJ (gB64 (fun a b => a ||| b) z (gS64 (fun a b => a <<< b) 1 (σ 24 a))), gX 1, gI (w + 1), gI k, gI p, gI (a + 1), gI (σ 24 a)]) (by omega) (by decide) (by rfl) (by rfl) dX7_controlledBy_162 rfl ?_
                            refine w_goto (pc' := 63) dX7_controlledBy_165 rfl ?_
                            refine Wp.lose (ls' := [gR 14, gI x, gJ (gB64 (fun a b => a ||| b) z (gS64 (fun a b => a <<< b) 1 (σ 24 a))), gX 1, gI (w + 1), gI k, gI p, gI (a + 1), gX 1]) ⟨.inr rfl, ⟨.inr rfl, ⟨.inr rfl, ⟨.inr rfl, ⟨.inr rfl, ⟨.inr rfl, ⟨.inr rfl, ⟨.inr rfl, ⟨.inl rfl, trivial⟩⟩⟩⟩⟩⟩⟩⟩⟩ ?_
                            exact ih_63 _ (by omega) (gB64 (fun a b => a ||| b) z (gS64 (fun a b => a <<< b) 1 (σ 24 a))) (w + 1) (a + 1) p (updI G (σ 24 a) ((G (σ 24 a)) + (σ 25 a))) (updI Q w (σ 24 a)) rfl (by first | (exfalso; omega) | exact hsk (by omega) (.inl (by omega)) | exact hsk (by omega) (.inr (cmpB.mp c_104)) | (rw [updI_eq] at c_133; first | exact had (by omega) (by omega) (fun h => cmpB.mpr h c_104) (by omega) | exact hfi (by omega) (by omega) (fun h => cmpB.mpr h c_104) (by omega) | (exfalso; have := hrm (by omega) (by omega) (fun h => cmpB.mpr h c_104); omega))) (by first | (exfalso; omega) | exact he | (rw [updI_ne (by omega)]; exact he) | (exfalso; have := hrm (by omega) (by omega) (fun h => cmpB.mpr h c_104); omega))
          exact hl_63 _ z w (σ 23 (Q k)) (σ 23 ((Q k) + 1)) G Q rfl (by exact hc.into hA (by omega)) (by rfl)
  refine Wp.heq (σ' := gUr (gUr σ 28 (fillF (σ 28) 60 0)) 29 (updI (σ 29) 0 x)) rfl ?_
  exact hl_23 _ 0 1 0 (fillF (σ 28) 60 0) (updI (σ 29) 0 x) rfl (by exact CB.start hx (fun f a b => fillF_in a b))
theorem hdL_s {C R : Int → Bool} {y l : Int} (h1 : y < 60) : hdL C R (60 - y).toNat y l = if C y = true then (if R y = true then hdL C R (60 - (y + 1)).toNat (y + 1) (if y < l then y else l) else y) else hdL C R (60 - (y + 1)).toNat (y + 1) l := by
  have e : (60 - y).toNat = (60 - (y + 1)).toNat + 1 := by omega
  rw [e]
  rfl
theorem hdL_e {C R : Int → Bool} {y l : Int} (h1 : ¬ y < 60) : hdL C R (60 - y).toNat y l = l := by
  have e : (60 - y).toNat = 0 := by omega
  rw [e]
  rfl
theorem k_headAmong {σ : gH} {A : Int → Int → Int} (x r : Int) (hx : 0 ≤ x ∧ x < 60) (hc : ∀ y, 0 ≤ y → y < 60 → (bitI (σ 27 y) x ↔ ctl A y x = true)) (hr : ∀ y, 0 ≤ y → y < 60 → (bitI r y ↔ rul A y = true)) : Mt mX7_headAmong 1 [gR 14, gI x, gJ r] σ (rE (gI (HD A x)) σ) := by
  refine Mt.walk (ls := [gR 14, gI x, gJ r, gX 1, gX 1, gX 1]) pn_X7 rfl (fun _ _ h => by cases h.1) (Nat.le_of_ble_eq_true rfl) rfl ?_
  refine w_iload_n (pc' := 1) (i := 1) (by rfl) (by rfl) dX7_headAmong_0 rfl ?_
  refine w_istore (pc' := 3) (ls' := [gR 14, gI x, gJ r, gX 1, gI x, gX 1]) (by decide) (by rfl) dX7_headAmong_1 rfl ?_
  refine w_iconst (pc' := 4) (by decide) dX7_headAmong_3 rfl ?_
  refine w_istore (pc' := 6) (ls' := [gR 14, gI x, gJ r, gX 1, gI x, gI 0]) (by decide) (by rfl) dX7_headAmong_4 rfl ?_
  have hl_6 : ∀ (mm : Nat) (y l : Int), (60 - y).toNat = mm → (0 ≤ y) → (hdL (fun z => ctl A z x) (rul A) (60 - y).toNat y l = HD A x) → Wp mX7_headAmong 1 (rE (gI (HD A x)) σ) σ 6 [gR 14, gI x, gJ r, gX 1, gI l, gI y] [] := by
    intro m_6
    induction m_6 using Nat.strongRecOn with
    | _ m_6 ih_6 =>
      intro y l hmeas_6 h0 hl
      refine w_iload (pc' := 8) (by rfl) dX7_headAmong_6 rfl ?_
      refine w_bipush (pc' := 10) (by decide) (by decide) dX7_headAmong_8 rfl ?_
      refine w_icmp_ge (pc' := 13) (t := 58) dX7_headAmong_10 rfl rfl (fun c_10 => ?_) (fun c_10 => ?_)
      · skip
        refine w_iload (pc' := 60) (by rfl) dX7_headAmong_58 rfl ?_
        refine v_ireturn rfl dX7_headAmong_60 ?_
        rw [hdL_e (by omega)] at hl
        exact ⟨by rw [← hl], rfl⟩
      · skip
        refine w_aload_n (pc' := 14) (i := 0) (by rfl) (by rfl) dX7_headAmong_13 rfl ?_
        refine w_getS (pc' := 17) (q := 27) fg_X7_43 kd_14 sf_X7_9 gr_14_9 dX7_headAmong_14 rfl ?_
        refine w_iload (pc' := 19) (by rfl) dX7_headAmong_17 rfl ?_
        refine w_lald (pc' := 20) kd_27 (by omega) (by omega) dX7_headAmong_19 rfl ?_
        refine w_iload_n (pc' := 21) (i := 1) (by rfl) (by rfl) dX7_headAmong_20 rfl ?_
        refine w_lshr (pc' := 22) dX7_headAmong_21 rfl ?_
        refine w_lconst (n := 1) (pc' := 23) (by decide) (by decide) dX7_headAmong_22 rfl ?_
        refine w_land (pc' := 24) dX7_headAmong_23 rfl ?_
        refine w_lconst (n := 0) (pc' := 25) (by decide) (by decide) dX7_headAmong_24 rfl ?_
        refine w_lcmp (pc' := 26) dX7_headAmong_25 rfl ?_
        refine w_if_eq (pc' := 29) (t := 52) dX7_headAmong_26 rfl rfl (fun c_26 => ?_) (fun c_26 => ?_)
        · skip
          refine v_iinc (pc' := 55) (x := y) (ls' := [gR 14, gI x, gJ r, gX 1, gI l, gI (y + 1)]) (by omega) (by decide) (by rfl) (by rfl) dX7_headAmong_52 rfl ?_
          refine w_goto (pc' := 6) dX7_headAmong_55 rfl ?_
          exact ih_6 _ (by omega) (y + 1) l rfl (by omega) (by first | (rw [hdL_s (by omega), if_neg (by rw [← hc y h0 (by omega)]; exact fun h => cmpB.mpr h c_26)] at hl; exact hl) | (rw [hdL_s (by omega), if_pos (by rw [← hc y h0 (by omega)]; exact cmpB.mp c_26), if_pos (by rw [← hr y h0 (by omega)]; exact cmpB.mp c_37)] at hl; exact hl))
        · skip
          refine w_lload_n (pc' := 30) (i := 2) (by rfl) (by rfl) dX7_headAmong_29 rfl ?_
          refine w_iload (pc' := 32) (by rfl) dX7_headAmong_30 rfl ?_
          refine w_lshr (pc' := 33) dX7_headAmong_32 rfl ?_
          refine w_lconst (n := 1) (pc' := 34) (by decide) (by decide) dX7_headAmong_33 rfl ?_
          refine w_land (pc' := 35) dX7_headAmong_34 rfl ?_
          refine w_lconst (n := 0) (pc' := 36) (by decide) (by decide) dX7_headAmong_35 rfl ?_
          refine w_lcmp (pc' := 37) dX7_headAmong_36 rfl ?_
          refine w_if_ne (pc' := 40) (t := 43) dX7_headAmong_37 rfl rfl (fun c_37 => ?_) (fun c_37 => ?_)
          · skip
            refine w_iload (pc' := 45) (by rfl) dX7_headAmong_43 rfl ?_
            refine w_iload (pc' := 47) (by rfl) dX7_headAmong_45 rfl ?_
            refine w_imin (pc' := 50) lk_X7_128 (Nat.le_of_ble_eq_true rfl) (Nat.le_of_ble_eq_true rfl) dX7_headAmong_47 rfl ?_
            refine w_istore (pc' := 52) (ls' := [gR 14, gI x, gJ r, gX 1, gI (if y < l then y else l), gI y]) (by decide) (by rfl) dX7_headAmong_50 rfl ?_
            refine v_iinc (pc' := 55) (x := y) (ls' := [gR 14, gI x, gJ r, gX 1, gI (if y < l then y else l), gI (y + 1)]) (by omega) (by decide) (by rfl) (by rfl) dX7_headAmong_52 rfl ?_
            refine w_goto (pc' := 6) dX7_headAmong_55 rfl ?_
            exact ih_6 _ (by omega) (y + 1) (if y < l then y else l) rfl (by omega) (by first | (rw [hdL_s (by omega), if_neg (by rw [← hc y h0 (by omega)]; exact fun h => cmpB.mpr h c_26)] at hl; exact hl) | (rw [hdL_s (by omega), if_pos (by rw [← hc y h0 (by omega)]; exact cmpB.mp c_26), if_pos (by rw [← hr y h0 (by omega)]; exact cmpB.mp c_37)] at hl; exact hl))
          · skip
            refine w_iload (pc' := 42) (by rfl) dX7_headAmong_40 rfl ?_
            refine v_ireturn rfl dX7_headAmong_42 ?_
            rw [hdL_s (by omega), if_pos (by rw [← hc y h0 (by omega)]; exact cmpB.mp c_26), if_neg (by rw [← hr y h0 (by omega)]; exact fun h => cmpB.mpr h c_37)] at hl
            exact ⟨by rw [← hl], rfl⟩
  exact hl_6 _ 0 x rfl (by omega) (by rfl)
theorem k_findHeads {σ : gH} {A : Int → Int → Int} (hA : ARW (σ 23) (σ 24) (σ 25) A) (hp : ∀ c f, 0 ≤ A c f ∧ A c f ≤ 10000) : Mt mX7_findHeads 2 [gR 14] σ (fun v σ' => v = gX 1 ∧ ∃ H C G Q, σ' = gUp (gUr (gUr (gUr (gUr σ 27 C) 28 G) 29 Q) 26 H) 14 12 1 ∧ ∀ x, 0 ≤ x → x < 60 → H x = HD A x) := by
  refine Mt.walk (ls := [gR 14, gX 1, gX 1, gX 1]) pn_X7 rfl (fun _ _ h => by cases h.1) (Nat.le_of_ble_eq_true rfl) rfl ?_
  refine w_lconst (n := 0) (pc' := 1) (by decide) (by decide) dX7_findHeads_0 rfl ?_
  refine w_lstore_n (pc' := 2) (i := 1) (ls' := [gR 14, gJ 0, gX 1, gX 1]) (by rfl) (by decide) (by rfl) dX7_findHeads_1 rfl ?_
  refine w_iconst (pc' := 3) (by decide) dX7_findHeads_2 rfl ?_
  refine w_istore_n (pc' := 4) (i := 3) (ls' := [gR 14, gJ 0, gX 1, gI 0]) (by rfl) (by decide) (by rfl) dX7_findHeads_3 rfl ?_
  have hl_4 : ∀ (mm : Nat) (r x : Int) (C G Q : Int → Int), (60 - x).toNat = mm → (0 ≤ x) → (x ≤ 60) → (∀ f, 0 ≤ f → f < 60 → (bitI r f ↔ ∃ y, 0 ≤ y ∧ y < x ∧ bitI (C y) f)) → (∀ y f, 0 ≤ y → y < x → 0 ≤ f → f < 60 → (bitI (C y) f ↔ ctl A y f = true)) → Wp mX7_findHeads 2 (fun v σ' => v = gX 1 ∧ ∃ H C G Q, σ' = gUp (gUr (gUr (gUr (gUr σ 27 C) 28 G) 29 Q) 26 H) 14 12 1 ∧ ∀ x, 0 ≤ x → x < 60 → H x = HD A x) (gUr (gUr (gUr σ 27 C) 28 G) 29 Q) 4 [gR 14, gJ r, gX 1, gI x] [] := by
    intro m_4
    induction m_4 using Nat.strongRecOn with
    | _ m_4 ih_4 =>
      intro r x C G Q hmeas_4 h0 h1 hr hc
      refine w_iload_n (pc' := 5) (i := 3) (by rfl) (by rfl) dX7_findHeads_4 rfl ?_
      refine w_bipush (pc' := 7) (by decide) (by decide) dX7_findHeads_5 rfl ?_
      refine w_icmp_ge (pc' := 10) (t := 36) dX7_findHeads_7 rfl rfl (fun c_7 => ?_) (fun c_7 => ?_)
      · skip
        refine w_iconst (pc' := 37) (by decide) dX7_findHeads_36 rfl ?_
        refine w_istore_n (pc' := 38) (i := 3) (ls' := [gR 14, gJ r, gX 1, gI 0]) (by rfl) (by decide) (by rfl) dX7_findHeads_37 rfl ?_
        have hrr : ∀ f, 0 ≤ f → f < 60 → (bitI r f ↔ rul A f = true) := fun f a b => by
          rw [hr f a b, rul_iff]
          constructor
          · rintro ⟨y, y0, y1, y2⟩
            exact ⟨y, y0, by omega, ctl_iff.mp ((hc y f y0 y1 a b).mp y2)⟩
          · rintro ⟨y, y0, y1, y2⟩
            exact ⟨y, y0, by omega, (hc y f y0 (by omega) a b).mpr (ctl_iff.mpr y2)⟩
        have hl_38 : ∀ (mm : Nat) (y : Int) (H : Int → Int), (60 - y).toNat = mm → (0 ≤ y) → (∀ z, 0 ≤ z → z < y → H z = HD A z) → Wp mX7_findHeads 2 (fun v σ' => v = gX 1 ∧ ∃ H C G Q, σ' = gUp (gUr (gUr (gUr (gUr σ 27 C) 28 G) 29 Q) 26 H) 14 12 1 ∧ ∀ x, 0 ≤ x → x < 60 → H x = HD A x) (gUr (gUr (gUr (gUr σ 27 C) 28 G) 29 Q) 26 H) 38 [gR 14, gJ r, gX 1, gI y] [] := by
          intro m_38
          induction m_38 using Nat.strongRecOn with
          | _ m_38 ih_38 =>
            intro y H hmeas_38 g0 hH
            refine w_iload_n (pc' := 39) (i := 3) (by rfl) (by rfl) dX7_findHeads_38 rfl ?_
            refine w_bipush (pc' := 41) (by decide) (by decide) dX7_findHeads_39 rfl ?_
            refine w_icmp_ge (pc' := 44) (t := 62) dX7_findHeads_41 rfl rfl (fun c_41 => ?_) (fun c_41 => ?_)
            · skip
              refine w_aload_n (pc' := 63) (i := 0) (by rfl) (by rfl) dX7_findHeads_62 rfl ?_
              refine w_iconst (pc' := 64) (by decide) dX7_findHeads_63 rfl ?_
              refine v_putZ (pc' := 67) (ji := 12) (.inr rfl) rfl fp_X7_88 kd_14 sf_X7_12 dX7_findHeads_64 rfl ?_
              refine w_return rfl dX7_findHeads_67 ?_
              exact ⟨rfl, H, C, G, Q, rfl, fun z a b => hH z a (by omega)⟩
            · skip
              refine w_aload_n (pc' := 45) (i := 0) (by rfl) (by rfl) dX7_findHeads_44 rfl ?_
              refine w_getS (pc' := 48) (q := 26) fg_X7_40 kd_14 sf_X7_8 gr_14_8 dX7_findHeads_45 rfl ?_
              refine w_iload_n (pc' := 49) (i := 3) (by rfl) (by rfl) dX7_findHeads_48 rfl ?_
              refine w_aload_n (pc' := 50) (i := 0) (by rfl) (by rfl) dX7_findHeads_49 rfl ?_
              refine w_iload_n (pc' := 51) (i := 3) (by rfl) (by rfl) dX7_findHeads_50 rfl ?_
              refine w_lload_n (pc' := 52) (i := 1) (by rfl) (by rfl) dX7_findHeads_51 rfl ?_
              refine v_callVE (pc' := 55) (st' := [gI (HD A y), gI y, gR 26]) (d' := 1) (av := [gI y, gJ r]) mi_mX7_headAmong lk_X7_106 rfl ci_X7 kd_14 rfl (Nat.le_of_ble_eq_true rfl) (Nat.le_of_ble_eq_true rfl) dX7_findHeads_52 rfl rfl (k_headAmong (σ := gUr (gUr (gUr (gUr σ 27 C) 28 G) 29 Q) 26 H) (A := A) y r ⟨by omega, by omega⟩ (fun y a b => hc y _ a (by omega) (by omega) (by omega)) (fun f a b => hrr f a b)) ?_
              refine w_iast (pc' := 56) kd_26 (by omega) (by omega) dX7_findHeads_55 rfl ?_
              refine Wp.heq (σ' := gUr (gUr (gUr (gUr σ 27 C) 28 G) 29 Q) 26 (updI H y (HD A y))) gUp_row ?_
              refine v_iinc (pc' := 59) (x := y) (ls' := [gR 14, gJ r, gX 1, gI (y + 1)]) (by omega) (by decide) (by rfl) (by rfl) dX7_findHeads_56 rfl ?_
              refine w_goto (pc' := 38) dX7_findHeads_59 rfl ?_
              exact ih_38 _ (by omega) (y + 1) (updI H y (HD A y)) rfl (by omega) (by intro z a b; by_cases e : z = y; rw [e, updI_eq]; rw [updI_ne e]; exact hH z a (by omega))
        refine Wp.heq (σ' := gUr (gUr (gUr (gUr σ 27 C) 28 G) 29 Q) 26 (gUr (gUr (gUr σ 27 C) 28 G) 29 Q 26)) gUr_id.symm ?_
        exact hl_38 _ 0 (gUr (gUr (gUr σ 27 C) 28 G) 29 Q 26) rfl (by omega) (by intro z a b; omega)
      · skip
        refine w_aload_n (pc' := 11) (i := 0) (by rfl) (by rfl) dX7_findHeads_10 rfl ?_
        refine w_getS (pc' := 14) (q := 27) fg_X7_43 kd_14 sf_X7_9 gr_14_9 dX7_findHeads_11 rfl ?_
        refine w_iload_n (pc' := 15) (i := 3) (by rfl) (by rfl) dX7_findHeads_14 rfl ?_
        refine w_aload_n (pc' := 16) (i := 0) (by rfl) (by rfl) dX7_findHeads_15 rfl ?_
        refine w_iload_n (pc' := 17) (i := 3) (by rfl) (by rfl) dX7_findHeads_16 rfl ?_
        refine w_callV (pc' := 20) (d' := 1) (av := [gI x]) mi_mX7_controlledBy lk_X7_102 rfl ci_X7 kd_14 rfl (Nat.le_of_ble_eq_true rfl) (Nat.le_of_ble_eq_true rfl) dX7_findHeads_17 rfl (k_controlledBy (σ := gUr (gUr (gUr σ 27 C) 28 G) 29 Q) (A := A) hA hp x ⟨by omega, by omega⟩) (fun v_17 σ_17 q_17 => ?_)
        obtain ⟨z17, G17, Q17, rfl, rfl, hz17⟩ := q_17
        refine Wp.heq (σ' := gUr (gUr (gUr σ 27 C) 28 G17) 29 Q17) ((congrArg (fun z => gUr z 29 Q17) ((gUr_cr (by decide)).trans (congrArg (fun z => gUr z 29 Q) gUr_same))).trans gUr_same) ?_
        show Wp _ _ _ _ _ _ [gJ z17, gI x, gR 27]
        refine w_last (pc' := 21) kd_27 (by omega) (by omega) dX7_findHeads_20 rfl ?_
        refine Wp.heq (σ' := gUr (gUr (gUr σ 27 (updI C x z17)) 28 G17) 29 Q17) ((gUp_cr (by decide)).trans (congrArg (fun z => gUr z 29 Q17) ((gUp_cr (by decide)).trans (congrArg (fun z => gUr z 28 G17) gUp_row)))) ?_
        refine w_lload_n (pc' := 22) (i := 1) (by rfl) (by rfl) dX7_findHeads_21 rfl ?_
        refine w_aload_n (pc' := 23) (i := 0) (by rfl) (by rfl) dX7_findHeads_22 rfl ?_
        refine w_getS (pc' := 26) (q := 27) fg_X7_43 kd_14 sf_X7_9 gr_14_9 dX7_findHeads_23 rfl ?_
        refine w_iload_n (pc' := 27) (i := 3) (by rfl) (by rfl) dX7_findHeads_26 rfl ?_
        refine w_lald (pc' := 28) kd_27 (by omega) (by omega) dX7_findHeads_27 rfl ?_
        show Wp _ _ _ _ _ _ [gJ ((updI C x z17) x), gJ r]
        refine w_lor (pc' := 29) dX7_findHeads_28 rfl ?_
        refine w_lstore_n (pc' := 30) (i := 1) (ls' := [gR 14, gJ (gB64 (fun a b => a ||| b) r ((updI C x z17) x)), gX 1, gI x]) (by rfl) (by decide) (by rfl) dX7_findHeads_29 rfl ?_
        refine v_iinc (pc' := 33) (x := x) (ls' := [gR 14, gJ (gB64 (fun a b => a ||| b) r ((updI C x z17) x)), gX 1, gI (x + 1)]) (by omega) (by decide) (by rfl) (by rfl) dX7_findHeads_30 rfl ?_
        refine w_goto (pc' := 4) dX7_findHeads_33 rfl ?_
        exact ih_4 _ (by omega) (gB64 (fun a b => a ||| b) r ((updI C x z17) x)) (x + 1) (updI C x z17) G17 Q17 rfl (by omega) (by omega) (by intro f a b; rw [bitI_or a (by omega), hr f a b, updI_eq]; constructor; rintro (⟨y, y0, y1, y2⟩ | e); exact ⟨y, y0, by omega, by rw [updI_ne (by omega)]; exact y2⟩; exact ⟨x, by omega, by omega, by rw [updI_eq]; exact e⟩; rintro ⟨y, y0, y1, y2⟩; by_cases e : y = x; rw [e, updI_eq] at y2; exact Or.inr y2; rw [updI_ne e] at y2; exact Or.inl ⟨y, y0, by omega, y2⟩) (by intro y f a b c d; by_cases e : y = x; rw [e, updI_eq]; exact hz17 f c d; rw [updI_ne e]; exact hc y f a (by omega) c d)
  refine Wp.heq (σ' := gUr (gUr (gUr σ 27 (σ 27)) 28 (σ 28)) 29 (σ 29)) (by rw [gUr_id, gUr_id, gUr_id]) ?_
  exact hl_4 _ 0 0 (σ 27) (σ 28) (σ 29) rfl (by omega) (by omega) (by intro f a b; exact ⟨fun h => absurd h (bitI_0 a (by omega)), fun ⟨y, y0, y1, _⟩ => by omega⟩) (by intro y f a b; omega)
theorem heads_end {σ0 σ1 : gH} {d t : Int} {H C G Q : Int → Int} (hq1 : QC σ0 σ1) (e7 : σ1 14 7 = σ0 15 6) (e5 : σ1 14 5 = d) (e6 : σ1 14 6 = t) (hA : ARW (σ1 23) (σ1 24) (σ1 25) (AR σ0 d t)) (hH : ∀ x, 0 ≤ x → x < 60 → H x = HD (AR σ0 d t) x) : QC σ0 (gUp (gUr (gUr (gUr (gUr σ1 27 C) 28 G) 29 Q) 26 H) 14 12 1) := by
  have q : hm (gUp (gUr (gUr (gUr (gUr σ1 27 C) 28 G) 29 Q) 26 H) 14 12 1) = hm σ0 := (hm_up (hm_nfC 14 (by decide) _)).trans ((hm_ur (hm_nfC 26 (by decide))).trans ((hm_ur (hm_nfC 29 (by decide))).trans ((hm_ur (hm_nfC 28 (by decide))).trans ((hm_ur (hm_nfC 27 (by decide))).trans hq1.1))))
  have eA : AR (gUp (gUr (gUr (gUr (gUr σ1 27 C) 28 G) 29 Q) 26 H) 14 12 1) d t = AR σ0 d t := AR_hm q d t
  refine ⟨q, hq1.2.1, hq1.2.2.1, fun _ => ?_⟩
  have g1 : ARW (σ1 23) (σ1 24) (σ1 25) (AR (gUp (gUr (gUr (gUr (gUr σ1 27 C) 28 G) 29 Q) 26 H) 14 12 1) (σ1 14 5) (σ1 14 6)) := by rw [e5, e6, eA]; exact hA
  have g2 : ∀ x, 0 ≤ x → x < 60 → H x = HD (AR (gUp (gUr (gUr (gUr (gUr σ1 27 C) 28 G) 29 Q) 26 H) 14 12 1) (σ1 14 5) (σ1 14 6)) x := by rw [e5, e6, eA]; exact hH
  exact ⟨g1, fun _ => g2⟩
theorem k_headOf {σ0 σ : gH} (hI : Inv σ0) (hq : QC σ0 σ) (x d t : Int) (hx : 0 ≤ x ∧ x < 60) : Mt mX7_headOf 3 [gR 14, gI x, gI d, gI t] σ (fun v σ' => v = gI (HD (AR σ0 d t) x) ∧ QC σ0 σ' ∧ Kp 34 σ σ') := by
  refine Mt.walk (ls := [gR 14, gI x, gI d, gI t]) pn_X7 rfl (fun _ _ h => by cases h.1) (Nat.le_of_ble_eq_true rfl) rfl ?_
  refine w_aload_n (pc' := 1) (i := 0) (by rfl) (by rfl) dX7_headOf_0 rfl ?_
  refine w_iload_n (pc' := 2) (i := 2) (by rfl) (by rfl) dX7_headOf_1 rfl ?_
  refine w_iload_n (pc' := 3) (i := 3) (by rfl) (by rfl) dX7_headOf_2 rfl ?_
  refine w_callV (pc' := 6) (d' := 1) (av := [gI d, gI t]) mi_mX7_load lk_X7_95 rfl ci_X7 kd_14 rfl (Nat.le_of_ble_eq_true rfl) (Nat.le_of_ble_eq_true rfl) dX7_headOf_3 rfl (k_load hI hq d t) (fun v_3 σ1 q_3 => ?_)
  obtain ⟨rfl, hq1, hk1, hm1, e7, e5, e6, hA⟩ := q_3
  show Wp _ _ _ _ _ _ []
  refine w_aload_n (pc' := 7) (i := 0) (by rfl) (by rfl) dX7_headOf_6 rfl ?_
  refine v_getZ (pc' := 10) (ji := 12) rfl fg_X7_88 kd_14 dX7_headOf_7 rfl ?_
  refine w_if_ne (pc' := 13) (t := 17) dX7_headOf_10 rfl rfl (fun c_10 => ?_) (fun c_10 => ?_)
  · skip
    refine w_iload_n (pc' := 18) (i := 1) (by rfl) (by rfl) dX7_headOf_17 rfl ?_
    refine w_if_lt (pc' := 21) (t := 36) dX7_headOf_18 rfl rfl (fun c_18 => ?_) (fun c_18 => ?_)
    · skip
      refine w_iconst (pc' := 37) (by decide) dX7_headOf_36 rfl ?_
      refine v_ireturn rfl dX7_headOf_37 ?_
      first
        | (exfalso; omega)
        | exact ⟨congrArg gI (hH x hx.1 hx.2), heads_end hq1 e7 e5 e6 hA hH, (((((hk1.ur (by decide)).ur (by decide)).ur (by decide)).ur (by decide)).up (by decide))⟩
        | exact ⟨congrArg gI (((hq1.2.2.2 (by rw [e7, hq1.rd (k := 15) (i := 6) (.inr rfl)])).2 (by omega) x hx.1 hx.2).trans (by rw [e5, e6, AR_hm hq1.1])), hq1, hk1⟩
    · skip
      refine w_iload_n (pc' := 22) (i := 1) (by rfl) (by rfl) dX7_headOf_21 rfl ?_
      refine w_bipush (pc' := 24) (by decide) (by decide) dX7_headOf_22 rfl ?_
      refine w_icmp_ge (pc' := 27) (t := 36) dX7_headOf_24 rfl rfl (fun c_24 => ?_) (fun c_24 => ?_)
      · skip
        refine w_iconst (pc' := 37) (by decide) dX7_headOf_36 rfl ?_
        refine v_ireturn rfl dX7_headOf_37 ?_
        first
          | (exfalso; omega)
          | exact ⟨congrArg gI (hH x hx.1 hx.2), heads_end hq1 e7 e5 e6 hA hH, (((((hk1.ur (by decide)).ur (by decide)).ur (by decide)).ur (by decide)).up (by decide))⟩
          | exact ⟨congrArg gI (((hq1.2.2.2 (by rw [e7, hq1.rd (k := 15) (i := 6) (.inr rfl)])).2 (by omega) x hx.1 hx.2).trans (by rw [e5, e6, AR_hm hq1.1])), hq1, hk1⟩
      · skip
        refine w_aload_n (pc' := 28) (i := 0) (by rfl) (by rfl) dX7_headOf_27 rfl ?_
        refine w_getS (pc' := 31) (q := 26) fg_X7_40 kd_14 sf_X7_8 gr_14_8 dX7_headOf_28 rfl ?_
        refine w_iload_n (pc' := 32) (i := 1) (by rfl) (by rfl) dX7_headOf_31 rfl ?_
        refine w_iald (pc' := 33) kd_26 (by omega) (by omega) dX7_headOf_32 rfl ?_
        refine w_goto (pc' := 37) dX7_headOf_33 rfl ?_
        refine v_ireturn rfl dX7_headOf_37 ?_
        first
          | (exfalso; omega)
          | exact ⟨congrArg gI (hH x hx.1 hx.2), heads_end hq1 e7 e5 e6 hA hH, (((((hk1.ur (by decide)).ur (by decide)).ur (by decide)).ur (by decide)).up (by decide))⟩
          | exact ⟨congrArg gI (((hq1.2.2.2 (by rw [e7, hq1.rd (k := 15) (i := 6) (.inr rfl)])).2 (by omega) x hx.1 hx.2).trans (by rw [e5, e6, AR_hm hq1.1])), hq1, hk1⟩
  · skip
    refine w_aload_n (pc' := 14) (i := 0) (by rfl) (by rfl) dX7_headOf_13 rfl ?_
    refine w_callV (pc' := 17) (d' := 2) (av := []) mi_mX7_findHeads lk_X7_99 rfl ci_X7 kd_14 rfl (Nat.le_of_ble_eq_true rfl) (Nat.le_of_ble_eq_true rfl) dX7_headOf_14 rfl (k_findHeads (σ := σ1) (A := AR σ0 d t) hA (fun c f => AR_in hI d t c f)) (fun v_14 σ_14 q_14 => ?_)
    obtain ⟨rfl, H, C, G, Q, rfl, hH⟩ := q_14
    show Wp _ _ _ _ _ _ []
    refine w_iload_n (pc' := 18) (i := 1) (by rfl) (by rfl) dX7_headOf_17 rfl ?_
    refine w_if_lt (pc' := 21) (t := 36) dX7_headOf_18 rfl rfl (fun c_18 => ?_) (fun c_18 => ?_)
    · skip
      refine w_iconst (pc' := 37) (by decide) dX7_headOf_36 rfl ?_
      refine v_ireturn rfl dX7_headOf_37 ?_
      first
        | (exfalso; omega)
        | exact ⟨congrArg gI (hH x hx.1 hx.2), heads_end hq1 e7 e5 e6 hA hH, (((((hk1.ur (by decide)).ur (by decide)).ur (by decide)).ur (by decide)).up (by decide))⟩
        | exact ⟨congrArg gI (((hq1.2.2.2 (by rw [e7, hq1.rd (k := 15) (i := 6) (.inr rfl)])).2 (by omega) x hx.1 hx.2).trans (by rw [e5, e6, AR_hm hq1.1])), hq1, hk1⟩
    · skip
      refine w_iload_n (pc' := 22) (i := 1) (by rfl) (by rfl) dX7_headOf_21 rfl ?_
      refine w_bipush (pc' := 24) (by decide) (by decide) dX7_headOf_22 rfl ?_
      refine w_icmp_ge (pc' := 27) (t := 36) dX7_headOf_24 rfl rfl (fun c_24 => ?_) (fun c_24 => ?_)
      · skip
        refine w_iconst (pc' := 37) (by decide) dX7_headOf_36 rfl ?_
        refine v_ireturn rfl dX7_headOf_37 ?_
        first
          | (exfalso; omega)
          | exact ⟨congrArg gI (hH x hx.1 hx.2), heads_end hq1 e7 e5 e6 hA hH, (((((hk1.ur (by decide)).ur (by decide)).ur (by decide)).ur (by decide)).up (by decide))⟩
          | exact ⟨congrArg gI (((hq1.2.2.2 (by rw [e7, hq1.rd (k := 15) (i := 6) (.inr rfl)])).2 (by omega) x hx.1 hx.2).trans (by rw [e5, e6, AR_hm hq1.1])), hq1, hk1⟩
      · skip
        refine w_aload_n (pc' := 28) (i := 0) (by rfl) (by rfl) dX7_headOf_27 rfl ?_
        refine w_getS (pc' := 31) (q := 26) fg_X7_40 kd_14 sf_X7_8 gr_14_8 dX7_headOf_28 rfl ?_
        refine w_iload_n (pc' := 32) (i := 1) (by rfl) (by rfl) dX7_headOf_31 rfl ?_
        refine w_iald (pc' := 33) kd_26 (by omega) (by omega) dX7_headOf_32 rfl ?_
        show Wp _ _ _ _ _ _ [gI (H x)]
        refine w_goto (pc' := 37) dX7_headOf_33 rfl ?_
        refine v_ireturn rfl dX7_headOf_37 ?_
        first
          | (exfalso; omega)
          | exact ⟨congrArg gI (hH x hx.1 hx.2), heads_end hq1 e7 e5 e6 hA hH, (((((hk1.ur (by decide)).ur (by decide)).ur (by decide)).ur (by decide)).up (by decide))⟩
          | exact ⟨congrArg gI (((hq1.2.2.2 (by rw [e7, hq1.rd (k := 15) (i := 6) (.inr rfl)])).2 (by omega) x hx.1 hx.2).trans (by rw [e5, e6, AR_hm hq1.1])), hq1, hk1⟩
