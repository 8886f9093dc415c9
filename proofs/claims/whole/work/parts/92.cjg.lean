/-! joined: the class seeks one more (gen/mod_cjg.py) -/
theorem BFS_gaps {E lo : Int} {F : Int → Int → Prop} {Y : Int → Prop} {M N q cb : Int → Int} {k : Int} {V : Int → Prop} (h1 : ∀ i, 0 ≤ i → i < k → lo ≤ q i ∧ q i < E ∧ M (q i) = -1) (h2 : ∀ i j, 0 ≤ i → i < j → j < k → q i < q j) (hV : ∀ z, 0 ≤ z → z < 120 → ¬ V z) : BFS E 120 F Y lo M N q cb k V :=
  ⟨fun i a b => ⟨(h1 i a b).1, (h1 i a b).2.1⟩, fun i j a b c d e => by
    by_cases l : i < j
    · have := h2 i j a l d; omega
    · by_cases l2 : j < i
      · have := h2 j i c l2 b; omega
      · omega, fun i a b => Or.inl (h1 i a b).2.2, fun g a b v => absurd v (hV g a b)⟩
theorem grow_form {σ : gH} : gUp (gCp σ 120 119 0 0 2) 112 16 0 = gUp (gUr (gUr (gUr σ 120 (cpR (σ 120) (σ 119) 2)) 123 (σ 123)) 124 (σ 124)) 112 16 0 := by
  rw [gCp_00, show gUr (gUr σ 120 (cpR (σ 120) (σ 119) 2)) 123 (σ 123) = gUr σ 120 (cpR (σ 120) (σ 119) 2) from gUr_id (σ := gUr σ 120 (cpR (σ 120) (σ 119) 2)) (k := 123), show gUr (gUr σ 120 (cpR (σ 120) (σ 119) 2)) 124 (σ 124) = gUr σ 120 (cpR (σ 120) (σ 119) 2) from gUr_id (σ := gUr σ 120 (cpR (σ 120) (σ 119) 2)) (k := 124)]
set_option maxHeartbeats 4000000 in
theorem kj_grow {σ : gH} {E lo : Int} {F : Int → Int → Prop} {Y : Int → Prop} (hE : 0 ≤ E ∧ E ≤ 100) (hlo : 0 ≤ lo) (hF : ∀ e g, 0 ≤ e → e < E → 0 ≤ g → g < 120 → (fBt (σ 118) e g ↔ F e g)) (hM : MT E 120 F (σ 121)) (hN : MN E 120 (σ 121) (σ 122)) (hYN : ∀ g, 0 ≤ g → g < 120 → Y g → σ 122 g = -1 ∨ lo ≤ σ 122 g) (hY : ∀ z, 0 ≤ z → z < 120 → (oBt (σ 119) z ↔ Y z)) (hsz : σ 112 8 = E) (hlE : lo ≤ E) : Mt mX6_grow 2 [gR 112, gI lo] σ (fun v σ' => ∃ (b : Int) (M2 N2 U C Q : Int → Int) (w : Int), v = gI b ∧ σ' = gUr (gUr (gUp (gUr (gUr (gUr σ 120 U) 123 C) 124 Q) 112 16 w) 121 M2) 122 N2 ∧ ((b = 1 ∧ ∃ x, AUG E 120 F Y lo (σ 121) x M2 N2) ∨ (b = 0 ∧ M2 = σ 121 ∧ N2 = σ 122 ∧ ∃ R : Int → Prop, (∀ i, lo ≤ i → i < E → σ 121 i = -1 → R i) ∧ (∀ r, R r → lo ≤ r ∧ r < E) ∧ CLR E 120 F Y (σ 121) R))) := by
  refine Mt.walk (ls := [gR 112, gI lo, gX 1, gX 1]) pn_X6 rfl (fun _ _ h => by obtain ⟨_, _, _, _, _, _, _, h, _⟩ := h; cases h) (Nat.le_of_ble_eq_true rfl) rfl ?_
  refine w_aload_n (pc' := 1) (i := 0) (by rfl) (by rfl) dX6_grow_0 rfl ?_
  refine w_getS (pc' := 4) (q := 119) fg_X6_31 kd_112 sf_X6_10 gr_112_10 dX6_grow_1 rfl ?_
  refine w_iconst (pc' := 5) (by decide) dX6_grow_4 rfl ?_
  refine w_aload_n (pc' := 6) (i := 0) (by rfl) (by rfl) dX6_grow_5 rfl ?_
  refine w_getS (pc' := 9) (q := 120) fg_X6_34 kd_112 sf_X6_11 gr_112_11 dX6_grow_6 rfl ?_
  refine w_iconst (pc' := 10) (by decide) dX6_grow_9 rfl ?_
  refine w_iconst (pc' := 11) (by decide) dX6_grow_10 rfl ?_
  refine w_copyJ (pc' := 14) lac_X6_134 kd_119 kd_120 (by decide) (by decide) (by decide) (by decide) (by decide) (by decide) (Nat.le_of_ble_eq_true rfl) dX6_grow_11 rfl ?_
  refine w_aload_n (pc' := 15) (i := 0) (by rfl) (by rfl) dX6_grow_14 rfl ?_
  refine w_iconst (pc' := 16) (by decide) dX6_grow_15 rfl ?_
  refine v_putI (pc' := 19) (ji := 16) rfl fp_X6_140 kd_112 sf_X6_16 dX6_grow_16 rfl ?_
  refine Wp.heq (σ' := gUp (gUr (gUr (gUr σ 120 (cpR (σ 120) (σ 119) 2)) 123 (σ 123)) 124 (σ 124)) 112 16 0) grow_form ?_
  refine w_iload_n (pc' := 20) (i := 1) (by rfl) (by rfl) dX6_grow_19 rfl ?_
  refine w_iconst (pc' := 21) (by decide) dX6_grow_20 rfl ?_
  refine w_imax (pc' := 24) lk_X6_143 (Nat.le_of_ble_eq_true rfl) (Nat.le_of_ble_eq_true rfl) dX6_grow_21 rfl ?_
  refine w_istore_n (pc' := 25) (i := 2) (ls' := [gR 112, gI lo, gI (if lo < 0 then 0 else lo), gX 1]) (by rfl) (by decide) (by rfl) dX6_grow_24 rfl ?_
  have hl_25 : ∀ (mm : Nat) (x w : Int) (Q : Int → Int), (E - x).toNat = mm → (lo ≤ x) → (x ≤ E) → (0 ≤ w) → (w ≤ x - lo) → (∀ i, 0 ≤ i → i < w → lo ≤ Q i ∧ Q i < x ∧ σ 121 (Q i) = -1) → (∀ i j, 0 ≤ i → i < j → j < w → Q i < Q j) → (∀ z, lo ≤ z → z < x → σ 121 z = -1 → ∃ i, 0 ≤ i ∧ i < w ∧ Q i = z) → Wp mX6_grow 2 (fun v σ' => ∃ (b : Int) (M2 N2 U C Q : Int → Int) (w : Int), v = gI b ∧ σ' = gUr (gUr (gUp (gUr (gUr (gUr σ 120 U) 123 C) 124 Q) 112 16 w) 121 M2) 122 N2 ∧ ((b = 1 ∧ ∃ x, AUG E 120 F Y lo (σ 121) x M2 N2) ∨ (b = 0 ∧ M2 = σ 121 ∧ N2 = σ 122 ∧ ∃ R : Int → Prop, (∀ i, lo ≤ i → i < E → σ 121 i = -1 → R i) ∧ (∀ r, R r → lo ≤ r ∧ r < E) ∧ CLR E 120 F Y (σ 121) R))) (gUp (gUr (gUr (gUr σ 120 (cpR (σ 120) (σ 119) 2)) 123 (σ 123)) 124 Q) 112 16 w) 25 [gR 112, gI lo, gI x, gX 1] [] := by
    intro m_25
    induction m_25 using Nat.strongRecOn with
    | _ m_25 ih_25 =>
      intro x w Q hmeas_25 x0 x1 w0 w1 hq1 hq2 hq3
      refine w_iload_n (pc' := 26) (i := 2) (by rfl) (by rfl) dX6_grow_25 rfl ?_
      refine w_aload_n (pc' := 27) (i := 0) (by rfl) (by rfl) dX6_grow_26 rfl ?_
      refine v_getI (pc' := 30) (ji := 8) rfl fg_X6_61 kd_112 dX6_grow_27 rfl ?_
      show Wp _ _ _ _ _ _ [gI (σ 112 8), gI x]
      refine w_icmp_ge (pc' := 33) (t := 60) dX6_grow_30 rfl rfl (fun c_30 => ?_) (fun c_30 => ?_)
      · skip
        refine w_iconst (pc' := 61) (by decide) dX6_grow_60 rfl ?_
        refine w_istore_n (pc' := 62) (i := 2) (ls' := [gR 112, gI lo, gI 0, gX 1]) (by rfl) (by decide) (by rfl) dX6_grow_61 rfl ?_
        have hl_62 : ∀ (mm : Nat) (c w : Int) (U C Q : Int → Int), (E - c).toNat = mm → (0 ≤ c) → (c ≤ w) → (BFS E 120 F Y lo (σ 121) (σ 122) Q C w (VU Y U)) → (∀ z, 0 ≤ z → z < 120 → oBt U z → Y z) → (∀ z, lo ≤ z → z < E → σ 121 z = -1 → ∃ i, 0 ≤ i ∧ i < w ∧ Q i = z) → (∀ i z, 0 ≤ i → i < c → 0 ≤ z → z < 120 → Y z → F (Q i) z → ¬ oBt U z) → Wp mX6_grow 2 (fun v σ' => ∃ (b : Int) (M2 N2 U C Q : Int → Int) (w : Int), v = gI b ∧ σ' = gUr (gUr (gUp (gUr (gUr (gUr σ 120 U) 123 C) 124 Q) 112 16 w) 121 M2) 122 N2 ∧ ((b = 1 ∧ ∃ x, AUG E 120 F Y lo (σ 121) x M2 N2) ∨ (b = 0 ∧ M2 = σ 121 ∧ N2 = σ 122 ∧ ∃ R : Int → Prop, (∀ i, lo ≤ i → i < E → σ 121 i = -1 → R i) ∧ (∀ r, R r → lo ≤ r ∧ r < E) ∧ CLR E 120 F Y (σ 121) R))) (gUp (gUr (gUr (gUr σ 120 U) 123 C) 124 Q) 112 16 w) 62 [gR 112, gI lo, gI c, gX 1] [] := by
          intro m_62
          induction m_62 using Nat.strongRecOn with
          | _ m_62 ih_62 =>
            intro c w U C Q hmeas_62 c0 c1 hB hU hgp hpc
            have wE := BFS_le hB hlo (by omega) hE.1
            refine w_iload_n (pc' := 63) (i := 2) (by rfl) (by rfl) dX6_grow_62 rfl ?_
            refine w_aload_n (pc' := 64) (i := 0) (by rfl) (by rfl) dX6_grow_63 rfl ?_
            refine v_getI (pc' := 67) (ji := 16) rfl fg_X6_140 kd_112 dX6_grow_64 rfl ?_
            show Wp _ _ _ _ _ _ [gI w, gI c]
            refine w_icmp_ge (pc' := 70) (t := 105) dX6_grow_67 rfl rfl (fun c_67 => ?_) (fun c_67 => ?_)
            · skip
              refine w_iconst (pc' := 106) (by decide) dX6_grow_105 rfl ?_
              refine w_zreturn rfl (.inl rfl) dX6_grow_106 ?_
              have hall : ∀ i z, 0 ≤ i → i < w → 0 ≤ z → z < 120 → Y z → F (Q i) z → VU Y U z := fun i z a b z0 z1 hy hf => ⟨⟨z0, z1⟩, hy, hpc i z a (by omega) z0 z1 hy hf⟩
              obtain ⟨s1, s2⟩ := BFS_shut hB hN hlo hall
              refine ⟨0, σ 121, σ 122, U, C, Q, w, rfl, ?_, Or.inr ⟨rfl, rfl, rfl, _, fun i a b c => hgp i a b c, s1, s2⟩⟩
              rw [show gUr (gUp (gUr (gUr (gUr σ 120 U) 123 C) 124 Q) 112 16 w) 121 (σ 121) = gUp (gUr (gUr (gUr σ 120 U) 123 C) 124 Q) 112 16 w from gUr_id (σ := gUp (gUr (gUr (gUr σ 120 U) 123 C) 124 Q) 112 16 w) (k := 121), show gUr (gUp (gUr (gUr (gUr σ 120 U) 123 C) 124 Q) 112 16 w) 122 (σ 122) = gUp (gUr (gUr (gUr σ 120 U) 123 C) 124 Q) 112 16 w from gUr_id (σ := gUp (gUr (gUr (gUr σ 120 U) 123 C) 124 Q) 112 16 w) (k := 122)]
            · skip
              refine w_iload_n (pc' := 71) (i := 2) (by rfl) (by rfl) dX6_grow_70 rfl ?_
              refine w_bipush (pc' := 73) (by decide) (by decide) dX6_grow_71 rfl ?_
              refine w_icmp_ge (pc' := 76) (t := 105) dX6_grow_73 rfl rfl (fun c_73 => ?_) (fun c_73 => ?_)
              · skip
                refine w_iconst (pc' := 106) (by decide) dX6_grow_105 rfl ?_
                refine w_zreturn rfl (.inl rfl) dX6_grow_106 ?_
                have hall : ∀ i z, 0 ≤ i → i < w → 0 ≤ z → z < 120 → Y z → F (Q i) z → VU Y U z := fun i z a b z0 z1 hy hf => ⟨⟨z0, z1⟩, hy, hpc i z a (by omega) z0 z1 hy hf⟩
                obtain ⟨s1, s2⟩ := BFS_shut hB hN hlo hall
                refine ⟨0, σ 121, σ 122, U, C, Q, w, rfl, ?_, Or.inr ⟨rfl, rfl, rfl, _, fun i a b c => hgp i a b c, s1, s2⟩⟩
                rw [show gUr (gUp (gUr (gUr (gUr σ 120 U) 123 C) 124 Q) 112 16 w) 121 (σ 121) = gUp (gUr (gUr (gUr σ 120 U) 123 C) 124 Q) 112 16 w from gUr_id (σ := gUp (gUr (gUr (gUr σ 120 U) 123 C) 124 Q) 112 16 w) (k := 121), show gUr (gUp (gUr (gUr (gUr σ 120 U) 123 C) 124 Q) 112 16 w) 122 (σ 122) = gUp (gUr (gUr (gUr σ 120 U) 123 C) 124 Q) 112 16 w from gUr_id (σ := gUp (gUr (gUr (gUr σ 120 U) 123 C) 124 Q) 112 16 w) (k := 122)]
              · skip
                refine w_aload_n (pc' := 77) (i := 0) (by rfl) (by rfl) dX6_grow_76 rfl ?_
                refine w_aload_n (pc' := 78) (i := 0) (by rfl) (by rfl) dX6_grow_77 rfl ?_
                refine w_getS (pc' := 81) (q := 124) fg_X6_46 kd_112 sf_X6_15 gr_112_15 dX6_grow_78 rfl ?_
                refine w_iload_n (pc' := 82) (i := 2) (by rfl) (by rfl) dX6_grow_81 rfl ?_
                refine w_iald (pc' := 83) kd_124 (by omega) (by omega) dX6_grow_82 rfl ?_
                show Wp _ _ _ _ _ _ [gI (Q c), gR 112]
                refine w_callV (pc' := 86) (d' := 1) (av := [gI (Q c)]) mi_mX6_reachFrom lk_X6_151 rfl ci_X6 kd_112 rfl (Nat.le_of_ble_eq_true rfl) (Nat.le_of_ble_eq_true rfl) dX6_grow_83 rfl (kj_reach (σ := gUp (gUr (gUr (gUr σ 120 U) 123 C) 124 Q) 112 16 w) (lo := lo) hE hlo hF hM hN hYN c (show 0 ≤ c ∧ c < w by omega) hB hU) (fun v_83 σ_83 q_83 => ?_)
                obtain ⟨v83, U83, C83, Q83, w83, rfl, rfl, hw83, hpr83, hU83, hr83⟩ := q_83
                refine Wp.heq (σ' := gUp (gUr (gUr (gUr σ 120 U83) 123 C83) 124 Q83) 112 16 w83) ((congrArg (fun z => gUp z 112 16 w83) ((congrArg (fun z => gUr z 124 Q83) ((congrArg (fun z => gUr z 123 C83) ((gUr_cu (by decide)).trans (congrArg (fun z => gUp z 112 16 w) ((gUr_cr (by decide)).trans (congrArg (fun z => gUr z 124 Q) ((gUr_cr (by decide)).trans (congrArg (fun z => gUr z 123 C) gUr_same))))))).trans ((gUr_cu (by decide)).trans (congrArg (fun z => gUp z 112 16 w) ((gUr_cr (by decide)).trans (congrArg (fun z => gUr z 124 Q) gUr_same)))))).trans ((gUr_cu (by decide)).trans (congrArg (fun z => gUp z 112 16 w) gUr_same)))).trans gUp_same) ?_
                have hw9 : w ≤ w83 := hw83
                have hpr9 : ∀ i, 0 ≤ i → i < w → Q83 i = Q i := hpr83
                show Wp _ _ _ _ _ _ [gI v83]
                refine w_istore_n (pc' := 87) (i := 3) (ls' := [gR 112, gI lo, gI c, gI v83]) (by rfl) (by decide) (by rfl) dX6_grow_86 rfl ?_
                refine w_iload_n (pc' := 88) (i := 3) (by rfl) (by rfl) dX6_grow_87 rfl ?_
                refine w_iconst (pc' := 89) (by decide) dX6_grow_88 rfl ?_
                refine w_icmp_eq (pc' := 92) (t := 99) dX6_grow_89 rfl rfl (fun c_89 => ?_) (fun c_89 => ?_)
                · skip
                  refine v_iinc (pc' := 102) (x := c) (ls' := [gR 112, gI lo, gI (c + 1), gI v83]) (by omega) (by decide) (by rfl) (by rfl) dX6_grow_99 rfl ?_
                  refine w_goto (pc' := 62) dX6_grow_102 rfl ?_
                  refine Wp.lose (ls' := [gR 112, gI lo, gI (c + 1), gX 1]) ⟨.inr rfl, ⟨.inr rfl, ⟨.inr rfl, ⟨.inl rfl, trivial⟩⟩⟩⟩ ?_
                  have hr := hr83.resolve_right (fun k => by omega)
                  exact ih_62 _ (by omega) (c + 1) w83 U83 C83 Q83 rfl (by omega) (by omega) (by exact hr.2.1) (by intro z a b k; exact (hU83 z a b k).1) (by intro z a b k; obtain ⟨i, i0, i1, i2⟩ := hgp z a b k; exact ⟨i, i0, by omega, (hpr9 i i0 i1).trans i2⟩) (by intro i z a b z0 z1 hy hf; rw [show Q83 i = Q i from hpr9 i a (by omega)] at hf; by_cases e : i = c; (rw [e] at hf; exact hr.2.2 z z0 z1 hy hf); exact fun k => hpc i z a (by omega) z0 z1 hy hf (hU83 z z0 z1 k).2)
                · skip
                  have hs := hr83.resolve_left (fun k => by omega)
                  obtain ⟨hs1, hs3, ⟨V9, hV9⟩, hs4⟩ := hs
                  have hs2 : w83 ≤ 100 ∧ True ∧ _ := ⟨hs3, trivial, hs4⟩
                  refine w_aload_n (pc' := 93) (i := 0) (by rfl) (by rfl) dX6_grow_92 rfl ?_
                  refine w_iload_n (pc' := 94) (i := 3) (by rfl) (by rfl) dX6_grow_93 rfl ?_
                  refine w_callV (pc' := 97) (d' := 0) (av := [gI v83]) mi_mX6_shift lk_X6_154 rfl ci_X6 kd_112 rfl (Nat.le_of_ble_eq_true rfl) (Nat.le_of_ble_eq_true rfl) dX6_grow_94 rfl (kj_shift (σ := gUp (gUr (gUr (gUr σ 120 U83) 123 C83) 124 Q83) 112 16 w83) hE hlo v83 c hs2.1 hM hV9 hs2.2.2) (fun v_94 σ_94 q_94 => ?_)
                  obtain ⟨rfl, M9, N9, x9, rfl, hA9⟩ := q_94
                  show Wp _ _ _ _ _ _ []
                  refine w_iconst (pc' := 98) (by decide) dX6_grow_97 rfl ?_
                  refine w_zreturn rfl (.inr rfl) dX6_grow_98 ?_
                  exact ⟨1, M9, N9, U83, C83, Q83, w83, rfl, rfl, Or.inl ⟨rfl, x9, hA9⟩⟩
        exact hl_62 _ 0 w (cpR (σ 120) (σ 119) 2) (σ 123) Q rfl (by omega) (by omega) (by exact BFS_gaps (fun i a b => by have r := hq1 i a b; exact ⟨r.1, by omega, r.2.2⟩) hq2 (fun z a b k => k.2.2 ((oBt_cp a b).mpr ((hY z a b).mpr k.2.1)))) (by intro z a b k; exact (hY z a b).mp ((oBt_cp a b).mp k)) (by intro z a b k; exact hq3 z a (by omega) k) (by intro i z a b; omega)
      · skip
        refine w_iload_n (pc' := 34) (i := 2) (by rfl) (by rfl) dX6_grow_33 rfl ?_
        refine w_bipush (pc' := 36) (by decide) (by decide) dX6_grow_34 rfl ?_
        refine w_icmp_ge (pc' := 39) (t := 60) dX6_grow_36 rfl rfl (fun c_36 => ?_) (fun c_36 => ?_)
        · skip
          refine w_iconst (pc' := 61) (by decide) dX6_grow_60 rfl ?_
          refine w_istore_n (pc' := 62) (i := 2) (ls' := [gR 112, gI lo, gI 0, gX 1]) (by rfl) (by decide) (by rfl) dX6_grow_61 rfl ?_
          have hl_62 : ∀ (mm : Nat) (c w : Int) (U C Q : Int → Int), (E - c).toNat = mm → (0 ≤ c) → (c ≤ w) → (BFS E 120 F Y lo (σ 121) (σ 122) Q C w (VU Y U)) → (∀ z, 0 ≤ z → z < 120 → oBt U z → Y z) → (∀ z, lo ≤ z → z < E → σ 121 z = -1 → ∃ i, 0 ≤ i ∧ i < w ∧ Q i = z) → (∀ i z, 0 ≤ i → i < c → 0 ≤ z → z < 120 → Y z → F (Q i) z → ¬ oBt U z) → Wp mX6_grow 2 (fun v σ' => ∃ (b : Int) (M2 N2 U C Q : Int → Int) (w : Int), v = gI b ∧ σ' = gUr (gUr (gUp (gUr (gUr (gUr σ 120 U) 123 C) 124 Q) 112 16 w) 121 M2) 122 N2 ∧ ((b = 1 ∧ ∃ x, AUG E 120 F Y lo (σ 121) x M2 N2) ∨ (b = 0 ∧ M2 = σ 121 ∧ N2 = σ 122 ∧ ∃ R : Int → Prop, (∀ i, lo ≤ i → i < E → σ 121 i = -1 → R i) ∧ (∀ r, R r → lo ≤ r ∧ r < E) ∧ CLR E 120 F Y (σ 121) R))) (gUp (gUr (gUr (gUr σ 120 U) 123 C) 124 Q) 112 16 w) 62 [gR 112, gI lo, gI c, gX 1] [] := by
            intro m_62
            induction m_62 using Nat.strongRecOn with
            | _ m_62 ih_62 =>
              intro c w U C Q hmeas_62 c0 c1 hB hU hgp hpc
              have wE := BFS_le hB hlo (by omega) hE.1
              refine w_iload_n (pc' := 63) (i := 2) (by rfl) (by rfl) dX6_grow_62 rfl ?_
              refine w_aload_n (pc' := 64) (i := 0) (by rfl) (by rfl) dX6_grow_63 rfl ?_
              refine v_getI (pc' := 67) (ji := 16) rfl fg_X6_140 kd_112 dX6_grow_64 rfl ?_
              show Wp _ _ _ _ _ _ [gI w, gI c]
              refine w_icmp_ge (pc' := 70) (t := 105) dX6_grow_67 rfl rfl (fun c_67 => ?_) (fun c_67 => ?_)
              · skip
                refine w_iconst (pc' := 106) (by decide) dX6_grow_105 rfl ?_
                refine w_zreturn rfl (.inl rfl) dX6_grow_106 ?_
                have hall : ∀ i z, 0 ≤ i → i < w → 0 ≤ z → z < 120 → Y z → F (Q i) z → VU Y U z := fun i z a b z0 z1 hy hf => ⟨⟨z0, z1⟩, hy, hpc i z a (by omega) z0 z1 hy hf⟩
                obtain ⟨s1, s2⟩ := BFS_shut hB hN hlo hall
                refine ⟨0, σ 121, σ 122, U, C, Q, w, rfl, ?_, Or.inr ⟨rfl, rfl, rfl, _, fun i a b c => hgp i a b c, s1, s2⟩⟩
                rw [show gUr (gUp (gUr (gUr (gUr σ 120 U) 123 C) 124 Q) 112 16 w) 121 (σ 121) = gUp (gUr (gUr (gUr σ 120 U) 123 C) 124 Q) 112 16 w from gUr_id (σ := gUp (gUr (gUr (gUr σ 120 U) 123 C) 124 Q) 112 16 w) (k := 121), show gUr (gUp (gUr (gUr (gUr σ 120 U) 123 C) 124 Q) 112 16 w) 122 (σ 122) = gUp (gUr (gUr (gUr σ 120 U) 123 C) 124 Q) 112 16 w from gUr_id (σ := gUp (gUr (gUr (gUr σ 120 U) 123 C) 124 Q) 112 16 w) (k := 122)]
              · skip
                refine w_iload_n (pc' := 71) (i := 2) (by rfl) (by rfl) dX6_grow_70 rfl ?_
                refine w_bipush (pc' := 73) (by decide) (by decide) dX6_grow_71 rfl ?_
                refine w_icmp_ge (pc' := 76) (t := 105) dX6_grow_73 rfl rfl (fun c_73 => ?_) (fun c_73 => ?_)
                · skip
                  refine w_iconst (pc' := 106) (by decide) dX6_grow_105 rfl ?_
                  refine w_zreturn rfl (.inl rfl) dX6_grow_106 ?_
                  have hall : ∀ i z, 0 ≤ i → i < w → 0 ≤ z → z < 120 → Y z → F (Q i) z → VU Y U z := fun i z a b z0 z1 hy hf => ⟨⟨z0, z1⟩, hy, hpc i z a (by omega) z0 z1 hy hf⟩
                  obtain ⟨s1, s2⟩ := BFS_shut hB hN hlo hall
                  refine ⟨0, σ 121, σ 122, U, C, Q, w, rfl, ?_, Or.inr ⟨rfl, rfl, rfl, _, fun i a b c => hgp i a b c, s1, s2⟩⟩
                  rw [show gUr (gUp (gUr (gUr (gUr σ 120 U) 123 C) 124 Q) 112 16 w) 121 (σ 121) = gUp (gUr (gUr (gUr σ 120 U) 123 C) 124 Q) 112 16 w from gUr_id (σ := gUp (gUr (gUr (gUr σ 120 U) 123 C) 124 Q) 112 16 w) (k := 121), show gUr (gUp (gUr (gUr (gUr σ 120 U) 123 C) 124 Q) 112 16 w) 122 (σ 122) = gUp (gUr (gUr (gUr σ 120 U) 123 C) 124 Q) 112 16 w from gUr_id (σ := gUp (gUr (gUr (gUr σ 120 U) 123 C) 124 Q) 112 16 w) (k := 122)]
                · skip
                  refine w_aload_n (pc' := 77) (i := 0) (by rfl) (by rfl) dX6_grow_76 rfl ?_
                  refine w_aload_n (pc' := 78) (i := 0) (by rfl) (by rfl) dX6_grow_77 rfl ?_
                  refine w_getS (pc' := 81) (q := 124) fg_X6_46 kd_112 sf_X6_15 gr_112_15 dX6_grow_78 rfl ?_
                  refine w_iload_n (pc' := 82) (i := 2) (by rfl) (by rfl) dX6_grow_81 rfl ?_
                  refine w_iald (pc' := 83) kd_124 (by omega) (by omega) dX6_grow_82 rfl ?_
                  show Wp _ _ _ _ _ _ [gI (Q c), gR 112]
                  refine w_callV (pc' := 86) (d' := 1) (av := [gI (Q c)]) mi_mX6_reachFrom lk_X6_151 rfl ci_X6 kd_112 rfl (Nat.le_of_ble_eq_true rfl) (Nat.le_of_ble_eq_true rfl) dX6_grow_83 rfl (kj_reach (σ := gUp (gUr (gUr (gUr σ 120 U) 123 C) 124 Q) 112 16 w) (lo := lo) hE hlo hF hM hN hYN c (show 0 ≤ c ∧ c < w by omega) hB hU) (fun v_83 σ_83 q_83 => ?_)
                  obtain ⟨v83, U83, C83, Q83, w83, rfl, rfl, hw83, hpr83, hU83, hr83⟩ := q_83
                  refine Wp.heq (σ' := gUp (gUr (gUr (gUr σ 120 U83) 123 C83) 124 Q83) 112 16 w83) ((congrArg (fun z => gUp z 112 16 w83) ((congrArg (fun z => gUr z 124 Q83) ((congrArg (fun z => gUr z 123 C83) ((gUr_cu (by decide)).trans (congrArg (fun z => gUp z 112 16 w) ((gUr_cr (by decide)).trans (congrArg (fun z => gUr z 124 Q) ((gUr_cr (by decide)).trans (congrArg (fun z => gUr z 123 C) gUr_same))))))).trans ((gUr_cu (by decide)).trans (congrArg (fun z => gUp z 112 16 w) ((gUr_cr (by decide)).trans (congrArg (fun z => gUr z 124 Q) gUr_same)))))).trans ((gUr_cu (by decide)).trans (congrArg (fun z => gUp z 112 16 w) gUr_same)))).trans gUp_same) ?_
                  have hw9 : w ≤ w83 := hw83
                  have hpr9 : ∀ i, 0 ≤ i → i < w → Q83 i = Q i := hpr83
                  show Wp _ _ _ _ _ _ [gI v83]
                  refine w_istore_n (pc' := 87) (i := 3) (ls' := [gR 112, gI lo, gI c, gI v83]) (by rfl) (by decide) (by rfl) dX6_grow_86 rfl ?_
                  refine w_iload_n (pc' := 88) (i := 3) (by rfl) (by rfl) dX6_grow_87 rfl ?_
                  refine w_iconst (pc' := 89) (by decide) dX6_grow_88 rfl ?_
                  refine w_icmp_eq (pc' := 92) (t := 99) dX6_grow_89 rfl rfl (fun c_89 => ?_) (fun c_89 => ?_)
                  · skip
                    refine v_iinc (pc' := 102) (x := c) (ls' := [gR 112, gI lo, gI (c + 1), gI v83]) (by omega) (by decide) (by rfl) (by rfl) dX6_grow_99 rfl ?_
                    refine w_goto (pc' := 62) dX6_grow_102 rfl ?_
                    refine Wp.lose (ls' := [gR 112, gI lo, gI (c + 1), gX 1]) ⟨.inr rfl, ⟨.inr rfl, ⟨.inr rfl, ⟨.inl rfl, trivial⟩⟩⟩⟩ ?_
                    have hr := hr83.resolve_right (fun k => by omega)
                    exact ih_62 _ (by omega) (c + 1) w83 U83 C83 Q83 rfl (by omega) (by omega) (by exact hr.2.1) (by intro z a b k; exact (hU83 z a b k).1) (by intro z a b k; obtain ⟨i, i0, i1, i2⟩ := hgp z a b k; exact ⟨i, i0, by omega, (hpr9 i i0 i1).trans i2⟩) (by intro i z a b z0 z1 hy hf; rw [show Q83 i = Q i from hpr9 i a (by omega)] at hf; by_cases e : i = c; (rw [e] at hf; exact hr.2.2 z z0 z1 hy hf); exact fun k => hpc i z a (by omega) z0 z1 hy hf (hU83 z z0 z1 k).2)
                  · skip
                    have hs := hr83.resolve_left (fun k => by omega)
                    obtain ⟨hs1, hs3, ⟨V9, hV9⟩, hs4⟩ := hs
                    have hs2 : w83 ≤ 100 ∧ True ∧ _ := ⟨hs3, trivial, hs4⟩
                    refine w_aload_n (pc' := 93) (i := 0) (by rfl) (by rfl) dX6_grow_92 rfl ?_
                    refine w_iload_n (pc' := 94) (i := 3) (by rfl) (by rfl) dX6_grow_93 rfl ?_
                    refine w_callV (pc' := 97) (d' := 0) (av := [gI v83]) mi_mX6_shift lk_X6_154 rfl ci_X6 kd_112 rfl (Nat.le_of_ble_eq_true rfl) (Nat.le_of_ble_eq_true rfl) dX6_grow_94 rfl (kj_shift (σ := gUp (gUr (gUr (gUr σ 120 U83) 123 C83) 124 Q83) 112 16 w83) hE hlo v83 c hs2.1 hM hV9 hs2.2.2) (fun v_94 σ_94 q_94 => ?_)
                    obtain ⟨rfl, M9, N9, x9, rfl, hA9⟩ := q_94
                    show Wp _ _ _ _ _ _ []
                    refine w_iconst (pc' := 98) (by decide) dX6_grow_97 rfl ?_
                    refine w_zreturn rfl (.inr rfl) dX6_grow_98 ?_
                    exact ⟨1, M9, N9, U83, C83, Q83, w83, rfl, rfl, Or.inl ⟨rfl, x9, hA9⟩⟩
          exact hl_62 _ 0 w (cpR (σ 120) (σ 119) 2) (σ 123) Q rfl (by omega) (by omega) (by exact BFS_gaps (fun i a b => by have r := hq1 i a b; exact ⟨r.1, by omega, r.2.2⟩) hq2 (fun z a b k => k.2.2 ((oBt_cp a b).mpr ((hY z a b).mpr k.2.1)))) (by intro z a b k; exact (hY z a b).mp ((oBt_cp a b).mp k)) (by intro z a b k; exact hq3 z a (by omega) k) (by intro i z a b; omega)
        · skip
          refine w_aload_n (pc' := 40) (i := 0) (by rfl) (by rfl) dX6_grow_39 rfl ?_
          refine w_getS (pc' := 43) (q := 121) fg_X6_37 kd_112 sf_X6_12 gr_112_12 dX6_grow_40 rfl ?_
          refine w_iload_n (pc' := 44) (i := 2) (by rfl) (by rfl) dX6_grow_43 rfl ?_
          refine w_iald (pc' := 45) kd_121 (by omega) (by omega) dX6_grow_44 rfl ?_
          show Wp _ _ _ _ _ _ [gI (σ 121 x)]
          refine w_iconst (pc' := 46) (by decide) dX6_grow_45 rfl ?_
          refine w_icmp_ne (pc' := 49) (t := 54) dX6_grow_46 rfl rfl (fun c_46 => ?_) (fun c_46 => ?_)
          · skip
            refine v_iinc (pc' := 57) (x := x) (ls' := [gR 112, gI lo, gI (x + 1), gX 1]) (by omega) (by decide) (by rfl) (by rfl) dX6_grow_54 rfl ?_
            refine w_goto (pc' := 25) dX6_grow_57 rfl ?_
            exact ih_25 _ (by omega) (x + 1) w Q rfl (by omega) (by omega) (by omega) (by omega) (by intro i a b; first | (by_cases e : i = w; (rw [e, updI_eq]; exact ⟨x0, by omega, by omega⟩); rw [updI_ne e]; have r := hq1 i a (by omega); exact ⟨r.1, by omega, r.2.2⟩) | (have r := hq1 i a b; exact ⟨r.1, by omega, r.2.2⟩)) (by intro i j a b c; first | (rw [updI_ne (show i ≠ w by omega)]; by_cases e : j = w; (rw [e, updI_eq]; exact (hq1 i a (by omega)).2.1); rw [updI_ne e]; exact hq2 i j a b (by omega)) | exact hq2 i j a b c) (by intro z a b c; by_cases e : z = x; (first | exact ⟨w, by omega, by omega, by rw [updI_eq]; exact e.symm⟩ | (exfalso; rw [e] at c; omega)); obtain ⟨i, i0, i1, i2⟩ := hq3 z a (by omega) c; first | exact ⟨i, i0, by omega, by rw [updI_ne (show i ≠ w by omega)]; exact i2⟩ | exact ⟨i, i0, i1, i2⟩)
          · skip
            refine w_aload_n (pc' := 50) (i := 0) (by rfl) (by rfl) dX6_grow_49 rfl ?_
            refine w_iload_n (pc' := 51) (i := 2) (by rfl) (by rfl) dX6_grow_50 rfl ?_
            refine w_callV (pc' := 54) (d' := 0) (av := [gI x]) mi_mX6_await lk_X6_148 rfl ci_X6 kd_112 rfl (Nat.le_of_ble_eq_true rfl) (Nat.le_of_ble_eq_true rfl) dX6_grow_51 rfl (kj_await (σ := gUp (gUr (gUr (gUr σ 120 (cpR (σ 120) (σ 119) 2)) 123 (σ 123)) 124 Q) 112 16 w) x (by omega) (show 0 ≤ w ∧ w < 100 by omega)) (fun v_51 σ_51 q_51 => ?_)
            obtain ⟨rfl, rfl⟩ := q_51
            refine Wp.heq (σ' := gUp (gUr (gUr (gUr σ 120 (cpR (σ 120) (σ 119) 2)) 123 (σ 123)) 124 (updI Q w x)) 112 16 (w + 1)) ((congrArg (fun z => gUp z 112 16 (w + 1)) ((gUp_cu (by decide)).trans (congrArg (fun z => gUp z 112 16 w) gUp_row))).trans gUp_same) ?_
            show Wp _ _ _ _ _ _ []
            refine v_iinc (pc' := 57) (x := x) (ls' := [gR 112, gI lo, gI (x + 1), gX 1]) (by omega) (by decide) (by rfl) (by rfl) dX6_grow_54 rfl ?_
            refine w_goto (pc' := 25) dX6_grow_57 rfl ?_
            exact ih_25 _ (by omega) (x + 1) (w + 1) (updI Q w x) rfl (by omega) (by omega) (by omega) (by omega) (by intro i a b; first | (by_cases e : i = w; (rw [e, updI_eq]; exact ⟨x0, by omega, by omega⟩); rw [updI_ne e]; have r := hq1 i a (by omega); exact ⟨r.1, by omega, r.2.2⟩) | (have r := hq1 i a b; exact ⟨r.1, by omega, r.2.2⟩)) (by intro i j a b c; first | (rw [updI_ne (show i ≠ w by omega)]; by_cases e : j = w; (rw [e, updI_eq]; exact (hq1 i a (by omega)).2.1); rw [updI_ne e]; exact hq2 i j a b (by omega)) | exact hq2 i j a b c) (by intro z a b c; by_cases e : z = x; (first | exact ⟨w, by omega, by omega, by rw [updI_eq]; exact e.symm⟩ | (exfalso; rw [e] at c; omega)); obtain ⟨i, i0, i1, i2⟩ := hq3 z a (by omega) c; first | exact ⟨i, i0, by omega, by rw [updI_ne (show i ≠ w by omega)]; exact i2⟩ | exact ⟨i, i0, i1, i2⟩)
  exact hl_25 _ (if lo < 0 then 0 else lo) 0 (σ 124) rfl (by first | omega | (split <;> omega)) (by first | omega | (split <;> omega)) (by omega) (by first | omega | (split <;> omega)) (by intro i a b; omega) (by intro i j a b c; omega) (by intro z a b; exfalso; have b2 := b; rw [if_neg (show ¬ lo < 0 by omega)] at b2; omega)
