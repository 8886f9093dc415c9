/-! joined: the class seeks one more (gen/mod_cjg.py) -/
theorem BFS_gaps {E lo : Int} {F : Int → Int → Prop} {Y : Int → Prop} {M N q cb : Int → Int} {k : Int} {V : Int → Prop} (h1 : ∀ i, 0 ≤ i → i < k → lo ≤ q i ∧ q i < E ∧ M (q i) = -1) (h2 : ∀ i j, 0 ≤ i → i < j → j < k → q i < q j) (hV : ∀ z, 0 ≤ z → z < 120 → ¬ V z) : BFS E 120 F Y lo M N q cb k V :=
  ⟨fun i a b => ⟨(h1 i a b).1, (h1 i a b).2.1⟩, fun i j a b c d e => by
    by_cases l : i < j
    · have := h2 i j a l d; omega
    · by_cases l2 : j < i
      · have := h2 j i c l2 b; omega
      · omega, fun i a b => Or.inl (h1 i a b).2.2, fun g a b v => absurd v (hV g a b)⟩
theorem grow_form {σ : gH} : gUp (gCp σ 120 119 0 0 2) 112 16 0 = gUp (gUr (gUr (gUr σ 120 (cpR (σ 120) (σ 119) 2)) 123 (σ 123)) 124 (σ 124)) 112 16 0 := by
  rw [gCp_00, show gUr (gUr σ 120 (cpR (σ 120) (σ 119) 2)) 123 (σ 123) = gUr σ 120 (cpR (σ 120) (σ 119) 2) from gUr_id (σ := gUr σ 120 (cpR (σ 120) (σ 119) 2)) (k := 123), show gUr (gUr σ 120 (cpR (σ 120) (σ 119) 2)) 124 (σ 124) = gUr σ 120 (cpR (σ 120) (σ 119) 2) from gUr_id (σ := gUr σ 120 (cpR (σ 120) (σ 119) 2)) (k := 124)]
set_option maxHeartbeats 4000000 in
theorem kj_grow {σ : gH} {E lo : Int} {F : Int → Int → Prop} {Y : Int → Prop} (hE : 0 ≤ E ∧ E ≤ 100) (hlo : 0 ≤ lo) (hF : ∀ e g, 0 ≤ e → e < E → 0 ≤ g → g < 120 → (fBt (σ 118) e g ↔ F e g)) (hM : MT E 120 F (σ 121)) (hN : MN E 120 (σ 121) (σ 122)) (hYN : ∀ g, 0 ≤ g → g < 120 → Y g → σ 122 g = -1 ∨ lo ≤ σ 122 g) (hY : ∀ z, 0 ≤ z → z < 120 → (oBt (σ 119) z ↔ Y z)) (hsz : σ 112 8 = E) (hlE : lo ≤ E) : Mt mX6_grow 3 [gR 112, gI lo] σ (fun v σ' => ∃ (b : Int) (M2 N2 U C Q : Int → Int) (w : Int), v = gI b ∧ σ' = gUr (gUr (gUp (gUr (gUr (gUr σ 120 U) 123 C) 124 Q) 112 16 w) 121 M2) 122 N2 ∧ ((b = 1 ∧ ∃ x, AUG E 120 F Y lo (σ 121) x M2 N2) ∨ (b = 0 ∧ M2 = σ 121 ∧ N2 = σ 122 ∧ ∃ R : Int → Prop, (∀ i, lo ≤ i → i < E → σ 121 i = -1 → R i) ∧ (∀ r, R r → lo ≤ r ∧ r < E) ∧ CLR E 120 F Y (σ 121) R))) := by
  refine Mt.walk (ls := [gR 112, gI lo, gX 1, gX 1]) pn_X6 rfl (fun _ _ h => by obtain ⟨_, _, _, _, _, _, _, h, _⟩ := h; cases h) (Nat.le_of_ble_eq_true rfl) rfl ?_
  refine w_aload_n (pc' := 1) (i := 0) (by rfl) (by rfl) dX6_grow_0 rfl ?_
  refine w_getS (pc' := 4) (q := 119) fg_X6_31 kd_112 sf_X6_10 gr_112_10 dX6_grow_1 rfl ?_
  refine w_iconst (pc' := 5) (by decide) dX6_grow_4 rfl ?_
  refine w_aload_n (pc' := 6) (i := 0) (by rfl) (by rfl) dX6_grow_5 rfl ?_
  refine w_getS (pc' := 9) (q := 120) fg_X6_34 kd_112 sf_X6_11 gr_112_11 dX6_grow_6 rfl ?_
  refine w_iconst (pc' := 10) (by decide) dX6_grow_9 rfl ?_
  refine w_iconst (pc' := 11) (by decide) dX6_grow_10 rfl ?_
  refine w_copyJ (pc' := 14) lac_X6_141 kd_119 kd_120 (by decide) (by decide) (by decide) (by decide) (by decide) (by decide) (Nat.le_of_ble_eq_true rfl) dX6_grow_11 rfl ?_
  refine w_aload_n (pc' := 15) (i := 0) (by rfl) (by rfl) dX6_grow_14 rfl ?_
  refine w_iconst (pc' := 16) (by decide) dX6_grow_15 rfl ?_
  refine v_putI (pc' := 19) (ji := 16) rfl fp_X6_147 kd_112 sf_X6_16 dX6_grow_16 rfl ?_
  refine Wp.heq (σ' := gUp (gUr (gUr (gUr σ 120 (cpR (σ 120) (σ 119) 2)) 123 (σ 123)) 124 (σ 124)) 112 16 0) grow_form ?_
  refine w_iload_n (pc' := 20) (i := 1) (by rfl) (by rfl) dX6_grow_19 rfl ?_
  refine w_istore_n (pc' := 21) (i := 2) (ls' := [gR 112, gI lo, gI lo, gX 1]) (by rfl) (by decide) (by rfl) dX6_grow_20 rfl ?_
  have hl_21 : ∀ (mm : Nat) (x w : Int) (Q : Int → Int), (E - x).toNat = mm → (lo ≤ x) → (x ≤ E) → (0 ≤ w) → (w ≤ x - lo) → (∀ i, 0 ≤ i → i < w → lo ≤ Q i ∧ Q i < x ∧ σ 121 (Q i) = -1) → (∀ i j, 0 ≤ i → i < j → j < w → Q i < Q j) → (∀ z, lo ≤ z → z < x → σ 121 z = -1 → ∃ i, 0 ≤ i ∧ i < w ∧ Q i = z) → Wp mX6_grow 3 (fun v σ' => ∃ (b : Int) (M2 N2 U C Q : Int → Int) (w : Int), v = gI b ∧ σ' = gUr (gUr (gUp (gUr (gUr (gUr σ 120 U) 123 C) 124 Q) 112 16 w) 121 M2) 122 N2 ∧ ((b = 1 ∧ ∃ x, AUG E 120 F Y lo (σ 121) x M2 N2) ∨ (b = 0 ∧ M2 = σ 121 ∧ N2 = σ 122 ∧ ∃ R : Int → Prop, (∀ i, lo ≤ i → i < E → σ 121 i = -1 → R i) ∧ (∀ r, R r → lo ≤ r ∧ r < E) ∧ CLR E 120 F Y (σ 121) R))) (gUp (gUr (gUr (gUr σ 120 (cpR (σ 120) (σ 119) 2)) 123 (σ 123)) 124 Q) 112 16 w) 21 [gR 112, gI lo, gI x, gX 1] [] := by
    intro m_21
    induction m_21 using Nat.strongRecOn with
    | _ m_21 ih_21 =>
      intro x w Q hmeas_21 x0 x1 w0 w1 hq1 hq2 hq3
      refine w_iload_n (pc' := 22) (i := 2) (by rfl) (by rfl) dX6_grow_21 rfl ?_
      refine w_aload_n (pc' := 23) (i := 0) (by rfl) (by rfl) dX6_grow_22 rfl ?_
      refine v_getI (pc' := 26) (ji := 8) rfl fg_X6_61 kd_112 dX6_grow_23 rfl ?_
      show Wp _ _ _ _ _ _ [gI (σ 112 8), gI x]
      refine w_icmp_ge (pc' := 29) (t := 49) dX6_grow_26 rfl rfl (fun c_26 => ?_) (fun c_26 => ?_)
      · skip
        refine w_iconst (pc' := 50) (by decide) dX6_grow_49 rfl ?_
        refine w_istore_n (pc' := 51) (i := 2) (ls' := [gR 112, gI lo, gI 0, gX 1]) (by rfl) (by decide) (by rfl) dX6_grow_50 rfl ?_
        have hl_51 : ∀ (mm : Nat) (c w : Int) (U C Q : Int → Int), (E - c).toNat = mm → (0 ≤ c) → (c ≤ w) → (BFS E 120 F Y lo (σ 121) (σ 122) Q C w (VU Y U)) → (∀ z, 0 ≤ z → z < 120 → oBt U z → Y z) → (∀ z, lo ≤ z → z < E → σ 121 z = -1 → ∃ i, 0 ≤ i ∧ i < w ∧ Q i = z) → (∀ i z, 0 ≤ i → i < c → 0 ≤ z → z < 120 → Y z → F (Q i) z → ¬ oBt U z) → Wp mX6_grow 3 (fun v σ' => ∃ (b : Int) (M2 N2 U C Q : Int → Int) (w : Int), v = gI b ∧ σ' = gUr (gUr (gUp (gUr (gUr (gUr σ 120 U) 123 C) 124 Q) 112 16 w) 121 M2) 122 N2 ∧ ((b = 1 ∧ ∃ x, AUG E 120 F Y lo (σ 121) x M2 N2) ∨ (b = 0 ∧ M2 = σ 121 ∧ N2 = σ 122 ∧ ∃ R : Int → Prop, (∀ i, lo ≤ i → i < E → σ 121 i = -1 → R i) ∧ (∀ r, R r → lo ≤ r ∧ r < E) ∧ CLR E 120 F Y (σ 121) R))) (gUp (gUr (gUr (gUr σ 120 U) 123 C) 124 Q) 112 16 w) 51 [gR 112, gI lo, gI c, gX 1] [] := by
          intro m_51
          induction m_51 using Nat.strongRecOn with
          | _ m_51 ih_51 =>
            intro c w U C Q hmeas_51 c0 c1 hB hU hgp hpc
            have wE := BFS_le hB hlo (by omega) hE.1
            refine w_iload_n (pc' := 52) (i := 2) (by rfl) (by rfl) dX6_grow_51 rfl ?_
            refine w_aload_n (pc' := 53) (i := 0) (by rfl) (by rfl) dX6_grow_52 rfl ?_
            refine v_getI (pc' := 56) (ji := 16) rfl fg_X6_147 kd_112 dX6_grow_53 rfl ?_
            show Wp _ _ _ _ _ _ [gI w, gI c]
            refine w_icmp_ge (pc' := 59) (t := 94) dX6_grow_56 rfl rfl (fun c_56 => ?_) (fun c_56 => ?_)
            · skip
              refine w_iconst (pc' := 95) (by decide) dX6_grow_94 rfl ?_
              refine w_zreturn rfl (.inl rfl) dX6_grow_95 ?_
              have hall : ∀ i z, 0 ≤ i → i < w → 0 ≤ z → z < 120 → Y z → F (Q i) z → VU Y U z := fun i z a b z0 z1 hy hf => ⟨⟨z0, z1⟩, hy, hpc i z a (by omega) z0 z1 hy hf⟩
              obtain ⟨s1, s2⟩ := BFS_shut hB hN hlo hall
              refine ⟨0, σ 121, σ 122, U, C, Q, w, rfl, ?_, Or.inr ⟨rfl, rfl, rfl, _, fun i a b c => hgp i a b c, s1, s2⟩⟩
              rw [show gUr (gUp (gUr (gUr (gUr σ 120 U) 123 C) 124 Q) 112 16 w) 121 (σ 121) = gUp (gUr (gUr (gUr σ 120 U) 123 C) 124 Q) 112 16 w from gUr_id (σ := gUp (gUr (gUr (gUr σ 120 U) 123 C) 124 Q) 112 16 w) (k := 121), show gUr (gUp (gUr (gUr (gUr σ 120 U) 123 C) 124 Q) 112 16 w) 122 (σ 122) = gUp (gUr (gUr (gUr σ 120 U) 123 C) 124 Q) 112 16 w from gUr_id (σ := gUp (gUr (gUr (gUr σ 120 U) 123 C) 124 Q) 112 16 w) (k := 122)]
            · skip
              refine w_iload_n (pc' := 60) (i := 2) (by rfl) (by rfl) dX6_grow_59 rfl ?_
              refine w_bipush (pc' := 62) (by decide) (by decide) dX6_grow_60 rfl ?_
              refine w_icmp_ge (pc' := 65) (t := 94) dX6_grow_62 rfl rfl (fun c_62 => ?_) (fun c_62 => ?_)
              · skip
                refine w_iconst (pc' := 95) (by decide) dX6_grow_94 rfl ?_
                refine w_zreturn rfl (.inl rfl) dX6_grow_95 ?_
                have hall : ∀ i z, 0 ≤ i → i < w → 0 ≤ z → z < 120 → Y z → F (Q i) z → VU Y U z := fun i z a b z0 z1 hy hf => ⟨⟨z0, z1⟩, hy, hpc i z a (by omega) z0 z1 hy hf⟩
                obtain ⟨s1, s2⟩ := BFS_shut hB hN hlo hall
                refine ⟨0, σ 121, σ 122, U, C, Q, w, rfl, ?_, Or.inr ⟨rfl, rfl, rfl, _, fun i a b c => hgp i a b c, s1, s2⟩⟩
                rw [show gUr (gUp (gUr (gUr (gUr σ 120 U) 123 C) 124 Q) 112 16 w) 121 (σ 121) = gUp (gUr (gUr (gUr σ 120 U) 123 C) 124 Q) 112 16 w from gUr_id (σ := gUp (gUr (gUr (gUr σ 120 U) 123 C) 124 Q) 112 16 w) (k := 121), show gUr (gUp (gUr (gUr (gUr σ 120 U) 123 C) 124 Q) 112 16 w) 122 (σ 122) = gUp (gUr (gUr (gUr σ 120 U) 123 C) 124 Q) 112 16 w from gUr_id (σ := gUp (gUr (gUr (gUr σ 120 U) 123 C) 124 Q) 112 16 w) (k := 122)]
              · skip
                refine w_aload_n (pc' := 66) (i := 0) (by rfl) (by rfl) dX6_grow_65 rfl ?_
                refine w_aload_n (pc' := 67) (i := 0) (by rfl) (by rfl) dX6_grow_66 rfl ?_
                refine w_getS (pc' := 70) (q := 124) fg_X6_46 kd_112 sf_X6_15 gr_112_15 dX6_grow_67 rfl ?_
                refine w_iload_n (pc' := 71) (i := 2) (by rfl) (by rfl) dX6_grow_70 rfl ?_
                refine w_iald (pc' := 72) kd_124 (by omega) (by omega) dX6_grow_71 rfl ?_
                show Wp _ _ _ _ _ _ [gI (Q c), gR 112]
                refine w_callV (pc' := 75) (d' := 2) (av := [gI (Q c)]) mi_mX6_reachFrom lk_X6_156 rfl ci_X6 kd_112 rfl (Nat.le_of_ble_eq_true rfl) (Nat.le_of_ble_eq_true rfl) dX6_grow_72 rfl (kj_reach (σ := gUp (gUr (gUr (gUr σ 120 U) 123 C) 124 Q) 112 16 w) (lo := lo) hE hlo hF hM hN hYN hsz c (show 0 ≤ c ∧ c < w by omega) hB hU) (fun v_72 σ_72 q_72 => ?_)
                obtain ⟨v72, U72, C72, Q72, w72, rfl, rfl, hw72, hpr72, hU72, hr72⟩ := q_72
                refine Wp.heq (σ' := gUp (gUr (gUr (gUr σ 120 U72) 123 C72) 124 Q72) 112 16 w72) ((congrArg (fun z => gUp z 112 16 w72) ((congrArg (fun z => gUr z 124 Q72) ((congrArg (fun z => gUr z 123 C72) ((gUr_cu (by decide)).trans (congrArg (fun z => gUp z 112 16 w) ((gUr_cr (by decide)).trans (congrArg (fun z => gUr z 124 Q) ((gUr_cr (by decide)).trans (congrArg (fun z => gUr z 123 C) gUr_same))))))).trans ((gUr_cu (by decide)).trans (congrArg (fun z => gUp z 112 16 w) ((gUr_cr (by decide)).trans (congrArg (fun z => gUr z 124 Q) gUr_same)))))).trans ((gUr_cu (by decide)).trans (congrArg (fun z => gUp z 112 16 w) gUr_same)))).trans gUp_same) ?_
                have hw9 : w ≤ w72 := hw72
                have hpr9 : ∀ i, 0 ≤ i → i < w → Q72 i = Q i := hpr72
                show Wp _ _ _ _ _ _ [gI v72]
                refine w_istore_n (pc' := 76) (i := 3) (ls' := [gR 112, gI lo, gI c, gI v72]) (by rfl) (by decide) (by rfl) dX6_grow_75 rfl ?_
                refine w_iload_n (pc' := 77) (i := 3) (by rfl) (by rfl) dX6_grow_76 rfl ?_
                refine w_iconst (pc' := 78) (by decide) dX6_grow_77 rfl ?_
                refine w_icmp_eq (pc' := 81) (t := 88) dX6_grow_78 rfl rfl (fun c_78 => ?_) (fun c_78 => ?_)
                · skip
                  refine v_iinc (pc' := 91) (x := c) (ls' := [gR 112, gI lo, gI (c + 1), gI v72]) (by omega) (by decide) (by rfl) (by rfl) dX6_grow_88 rfl ?_
                  refine w_goto (pc' := 51) dX6_grow_91 rfl ?_
                  refine Wp.lose (ls' := [gR 112, gI lo, gI (c + 1), gX 1]) ⟨.inr rfl, ⟨.inr rfl, ⟨.inr rfl, ⟨.inl rfl, trivial⟩⟩⟩⟩ ?_
                  have hr := hr72.resolve_right (fun k => by omega)
                  exact ih_51 _ (by omega) (c + 1) w72 U72 C72 Q72 rfl (by omega) (by omega) (by exact hr.2.1) (by intro z a b k; exact (hU72 z a b k).1) (by intro z a b k; obtain ⟨i, i0, i1, i2⟩ := hgp z a b k; exact ⟨i, i0, by omega, (hpr9 i i0 i1).trans i2⟩) (by intro i z a b z0 z1 hy hf; rw [show Q72 i = Q i from hpr9 i a (by omega)] at hf; by_cases e : i = c; (rw [e] at hf; exact hr.2.2 z z0 z1 hy hf); exact fun k => hpc i z a (by omega) z0 z1 hy hf (hU72 z z0 z1 k).2)
                · skip
                  have hs := hr72.resolve_left (fun k => by omega)
                  obtain ⟨hs1, hs3, ⟨V9, hV9⟩, hs4⟩ := hs
                  have hs2 : w72 ≤ 100 ∧ True ∧ _ := ⟨hs3, trivial, hs4⟩
                  refine w_aload_n (pc' := 82) (i := 0) (by rfl) (by rfl) dX6_grow_81 rfl ?_
                  refine w_iload_n (pc' := 83) (i := 3) (by rfl) (by rfl) dX6_grow_82 rfl ?_
                  refine w_callV (pc' := 86) (d' := 2) (av := [gI v72]) mi_mX6_shift lk_X6_159 rfl ci_X6 kd_112 rfl (Nat.le_of_ble_eq_true rfl) (Nat.le_of_ble_eq_true rfl) dX6_grow_83 rfl (kj_shift (σ := gUp (gUr (gUr (gUr σ 120 U72) 123 C72) 124 Q72) 112 16 w72) hE hlo v72 c hsz hs2.1 hM hV9 hs2.2.2) (fun v_83 σ_83 q_83 => ?_)
                  obtain ⟨rfl, M9, N9, x9, rfl, hA9⟩ := q_83
                  show Wp _ _ _ _ _ _ []
                  refine w_iconst (pc' := 87) (by decide) dX6_grow_86 rfl ?_
                  refine w_zreturn rfl (.inr rfl) dX6_grow_87 ?_
                  exact ⟨1, M9, N9, U72, C72, Q72, w72, rfl, rfl, Or.inl ⟨rfl, x9, hA9⟩⟩
        exact hl_51 _ 0 w (cpR (σ 120) (σ 119) 2) (σ 123) Q rfl (by omega) (by omega) (by exact BFS_gaps (fun i a b => by have r := hq1 i a b; exact ⟨r.1, by omega, r.2.2⟩) hq2 (fun z a b k => k.2.2 ((oBt_cp a b).mpr ((hY z a b).mpr k.2.1)))) (by intro z a b k; exact (hY z a b).mp ((oBt_cp a b).mp k)) (by intro z a b k; exact hq3 z a (by omega) k) (by intro i z a b; omega)
      · skip
        refine w_aload_n (pc' := 30) (i := 0) (by rfl) (by rfl) dX6_grow_29 rfl ?_
        refine w_iload_n (pc' := 31) (i := 2) (by rfl) (by rfl) dX6_grow_30 rfl ?_
        refine v_callVE (pc' := 34) (st' := [gI (σ 121 x)]) (d' := 1) (av := [gI x]) mi_mX6_giftJoined lk_X6_150 rfl ci_X6 kd_112 rfl (Nat.le_of_ble_eq_true rfl) (Nat.le_of_ble_eq_true rfl) dX6_grow_31 rfl rfl (kj_giftJoined (σ := gUp (gUr (gUr (gUr σ 120 (cpR (σ 120) (σ 119) 2)) 123 (σ 123)) 124 Q) 112 16 w) x (by omega) (show x < σ 112 8 from by omega)) ?_
        refine w_iconst (pc' := 35) (by decide) dX6_grow_34 rfl ?_
        refine w_icmp_ne (pc' := 38) (t := 43) dX6_grow_35 rfl rfl (fun c_35 => ?_) (fun c_35 => ?_)
        · skip
          refine v_iinc (pc' := 46) (x := x) (ls' := [gR 112, gI lo, gI (x + 1), gX 1]) (by omega) (by decide) (by rfl) (by rfl) dX6_grow_43 rfl ?_
          refine w_goto (pc' := 21) dX6_grow_46 rfl ?_
          exact ih_21 _ (by omega) (x + 1) w Q rfl (by omega) (by omega) (by omega) (by omega) (by intro i a b; first | (by_cases e : i = w; (rw [e, updI_eq]; exact ⟨x0, by omega, by omega⟩); rw [updI_ne e]; have r := hq1 i a (by omega); exact ⟨r.1, by omega, r.2.2⟩) | (have r := hq1 i a b; exact ⟨r.1, by omega, r.2.2⟩)) (by intro i j a b c; first | (rw [updI_ne (show i ≠ w by omega)]; by_cases e : j = w; (rw [e, updI_eq]; exact (hq1 i a (by omega)).2.1); rw [updI_ne e]; exact hq2 i j a b (by omega)) | exact hq2 i j a b c) (by intro z a b c; by_cases e : z = x; (first | exact ⟨w, by omega, by omega, by rw [updI_eq]; exact e.symm⟩ | (exfalso; rw [e] at c; omega)); obtain ⟨i, i0, i1, i2⟩ := hq3 z a (by omega) c; first | exact ⟨i, i0, by omega, by rw [updI_ne (show i ≠ w by omega)]; exact i2⟩ | exact ⟨i, i0, i1, i2⟩)
        · skip
          refine w_aload_n (pc' := 39) (i := 0) (by rfl) (by rfl) dX6_grow_38 rfl ?_
          refine w_iload_n (pc' := 40) (i := 2) (by rfl) (by rfl) dX6_grow_39 rfl ?_
          refine w_callV (pc' := 43) (d' := 0) (av := [gI x]) mi_mX6_await lk_X6_153 rfl ci_X6 kd_112 rfl (Nat.le_of_ble_eq_true rfl) (Nat.le_of_ble_eq_true rfl) dX6_grow_40 rfl (kj_await (σ := gUp (gUr (gUr (gUr σ 120 (cpR (σ 120) (σ 119) 2)) 123 (σ 123)) 124 Q) 112 16 w) x (by omega) (show 0 ≤ w ∧ w < 100 by omega)) (fun v_40 σ_40 q_40 => ?_)
          obtain ⟨rfl, rfl⟩ := q_40
          refine Wp.heq (σ' := gUp (gUr (gUr (gUr σ 120 (cpR (σ 120) (σ 119) 2)) 123 (σ 123)) 124 (updI Q w x)) 112 16 (w + 1)) ((congrArg (fun z => gUp z 112 16 (w + 1)) ((gUp_cu (by decide)).trans (congrArg (fun z => gUp z 112 16 w) gUp_row))).trans gUp_same) ?_
          show Wp _ _ _ _ _ _ []
          refine v_iinc (pc' := 46) (x := x) (ls' := [gR 112, gI lo, gI (x + 1), gX 1]) (by omega) (by decide) (by rfl) (by rfl) dX6_grow_43 rfl ?_
          refine w_goto (pc' := 21) dX6_grow_46 rfl ?_
          exact ih_21 _ (by omega) (x + 1) (w + 1) (updI Q w x) rfl (by omega) (by omega) (by omega) (by omega) (by intro i a b; first | (by_cases e : i = w; (rw [e, updI_eq]; exact ⟨x0, by omega, by omega⟩); rw [updI_ne e]; have r := hq1 i a (by omega); exact ⟨r.1, by omega, r.2.2⟩) | (have r := hq1 i a b; exact ⟨r.1, by omega, r.2.2⟩)) (by intro i j a b c; first | (rw [updI_ne (show i ≠ w by omega)]; by_cases e : j = w; (rw [e, updI_eq]; exact (hq1 i a (by omega)).2.1); rw [updI_ne e]; exact hq2 i j a b (by omega)) | exact hq2 i j a b c) (by intro z a b c; by_cases e : z = x; (first | exact ⟨w, by omega, by omega, by rw [updI_eq]; exact e.symm⟩ | (exfalso; rw [e] at c; omega)); obtain ⟨i, i0, i1, i2⟩ := hq3 z a (by omega) c; first | exact ⟨i, i0, by omega, by rw [updI_ne (show i ≠ w by omega)]; exact i2⟩ | exact ⟨i, i0, i1, i2⟩)
  exact hl_21 _ lo 0 (σ 124) rfl (by first | omega | (split <;> omega)) (by first | omega | (split <;> omega)) (by omega) (by first | omega | (split <;> omega)) (by intro i a b; omega) (by intro i j a b c; omega) (by intro z a b; omega)
