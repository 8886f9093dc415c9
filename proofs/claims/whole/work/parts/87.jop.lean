/-! joined: the reference, one entry settled (gen/mod_jop.py) -/
theorem les_backM {M : Int → Int} {e g h : Int} (hn : h ≠ e) (hM : M h = g) : updI (updI (updI (updI M e g) h (-1)) h g) e (M e) = M := funext fun i => by
  unfold updI
  by_cases a : i = e
  · rw [if_pos a, a]
  · rw [if_neg a]
    by_cases b : i = h
    · rw [if_pos b, b, hM]
    · rw [if_neg b, if_neg b, if_neg a]
theorem les_backN {N : Int → Int} {e g d h : Int} (hd : d ≠ g) (hg : N g = h) (he : N d = e) : updI (updI (updI (updI N g e) d (-1)) g h) d e = N := funext fun i => by
  unfold updI
  by_cases a : i = d
  · rw [if_pos a, a, he]
  · rw [if_neg a]
    by_cases b : i = g
    · rw [if_pos b, b, hg]
    · rw [if_neg b, if_neg a, if_neg b]
theorem les_backX {X : Int → Int} {g : Int} (h : X g = 0) : updI (updI X g 1) g 0 = X := funext fun i => by
  unfold updI
  by_cases b : i = g
  · rw [if_pos b, b, h]
  · rw [if_neg b, if_neg b]
theorem les_n0 {N : Int → Int} {e g d z : Int} (hd : d = -1) (z0 : 0 ≤ z) : updI N g e z = if z = g then e else if z = d then -1 else N z := by
  unfold updI
  rw [if_neg (c := z = d) (by omega)]
theorem les_n1 {N : Int → Int} {e g d z : Int} (hd : d ≠ g) : updI (updI N g e) d (-1) z = if z = g then e else if z = d then -1 else N z := by
  unfold updI
  by_cases a : z = d
  · rw [if_pos a, if_neg (c := z = g) (by omega), if_pos a]
  · rw [if_neg a, if_neg (c := z = d) a]
theorem les_m0 {M : Int → Int} {e g h i : Int} (hh : h = -1) (i0 : 0 ≤ i) : updI M e g i = tkM M e g h i := by
  unfold updI tkM
  rw [if_neg (c := i = h) (by omega)]
set_option maxHeartbeats 4000000 in
theorem q_lessen {σ : gH} {E G : Int} {F : Int → Int → Prop} (hE : 0 ≤ E ∧ E ≤ 100) (hG : 0 ≤ G ∧ G ≤ 120) (e42 : σ 133 42 = G) (e99 : σ 133 99 = E) (hF : ∀ e g, 0 ≤ e → e < E → 0 ≤ g → g < G → (σ 197 (120 * e + g) ≠ 0 ↔ F e g)) (e : Int) (he : 0 ≤ e ∧ e < E) (hP : PHS E G F e (σ 199)) (hN : MN E G (σ 199) (σ 200)) (hfx : ∀ g, 0 ≤ g → g < G → (σ 198 g = 0 ↔ ∀ i, 0 ≤ i → i < e → σ 199 i ≠ g)) : Mt mX12_lessen 3 [gR 133, gI e] σ (fun v σ' => v = gX 1 ∧ ∃ M2 N2 C Q, σ' = gUr (gUr (gUr (gUr σ 201 C) 202 Q) 199 M2) 200 N2 ∧ PHS E G F (e + 1) M2 ∧ MN E G M2 N2 ∧ ∀ i, 0 ≤ i → i < e → M2 i = σ 199 i) := by
  refine Mt.walk (ls := [gR 133, gI e, gX 1, gX 1, gX 1, gX 1]) pn_X12 rfl (fun _ _ h => by cases h.1) (Nat.le_of_ble_eq_true rfl) rfl ?_
  refine w_aload_n (pc' := 1) (i := 0) (by rfl) (by rfl) dX12_lessen_0 rfl ?_
  refine w_getS (pc' := 4) (q := 199) fg_X12_217 kd_133 sf_X12_102 gr_133_102 dX12_lessen_1 rfl ?_
  refine w_iload_n (pc' := 5) (i := 1) (by rfl) (by rfl) dX12_lessen_4 rfl ?_
  refine w_iald (pc' := 6) kd_199 (by omega) (by omega) dX12_lessen_5 rfl ?_
  refine w_istore_n (pc' := 7) (i := 2) (ls' := [gR 133, gI e, gI (σ 199 e), gX 1, gX 1, gX 1]) (by rfl) (by decide) (by rfl) dX12_lessen_6 rfl ?_
  refine w_iconst (pc' := 8) (by decide) dX12_lessen_7 rfl ?_
  refine w_istore_n (pc' := 9) (i := 3) (ls' := [gR 133, gI e, gI (σ 199 e), gI 0, gX 1, gX 1]) (by rfl) (by decide) (by rfl) dX12_lessen_8 rfl ?_
  have hl_9 : ∀ (mm : Nat) (g : Int) (C Q X : Int → Int), (G - g).toNat = mm → (0 ≤ g) → (g ≤ G) → (X = σ 198) → (NOG E G F e g (σ 199)) → Wp mX12_lessen 3 (fun v σ' => v = gX 1 ∧ ∃ M2 N2 C Q, σ' = gUr (gUr (gUr (gUr σ 201 C) 202 Q) 199 M2) 200 N2 ∧ PHS E G F (e + 1) M2 ∧ MN E G M2 N2 ∧ ∀ i, 0 ≤ i → i < e → M2 i = σ 199 i) (gUr (gUr (gUr (gUr (gUr σ 201 C) 202 Q) 199 (σ 199)) 200 (σ 200)) 198 X) 9 [gR 133, gI e, gI (σ 199 e), gI g, gX 1, gX 1] [] := by
    intro m_9
    induction m_9 using Nat.strongRecOn with
    | _ m_9 ih_9 =>
      intro g C Q X hmeas_9 g0 g1 hX hno
      have hXg : X g = σ 198 g := by rw [hX]
      have hFg : ∀ _ : Unit, g < G → (σ 197 (120 * e + g) ≠ 0 ↔ F e g) := fun _ h => hF e g he.1 he.2 g0 h
      have hd : ∀ _ : Unit, _ := fun _ => hP.1.1.1 e he.1 he.2
      refine w_iload_n (pc' := 10) (i := 3) (by rfl) (by rfl) dX12_lessen_9 rfl ?_
      refine w_aload_n (pc' := 11) (i := 0) (by rfl) (by rfl) dX12_lessen_10 rfl ?_
      refine v_getI (pc' := 14) (ji := 42) rfl fg_X12_313 kd_133 dX12_lessen_11 rfl ?_
      show Wp _ _ _ _ _ _ [gI (σ 133 42), gI g]
      refine w_icmp_ge (pc' := 17) (t := 173) dX12_lessen_14 rfl rfl (fun c_14 => ?_) (fun c_14 => ?_)
      · skip
        refine w_return rfl dX12_lessen_173 ?_
        first
          | exact ⟨rfl, σ 199, σ 200, C, Q, (by rw [show X = σ 198 by exact hX]; exact gUr_id (σ := gUr (gUr (gUr (gUr σ 201 C) 202 Q) 199 (σ 199)) 200 (σ 200)) (k := 198)), hP.to hP.1 (fun _ _ _ => rfl) (OPT_at hno (by omega) (fun _ _ _ => rfl) (by omega) he), hN, fun _ _ _ => rfl⟩
          | exact ⟨rfl, σ 199, σ 200, C, Q, (by rw [show X = σ 198 by exact hX]; exact gUr_id (σ := gUr (gUr (gUr (gUr σ 201 C) 202 Q) 199 (σ 199)) 200 (σ 200)) (k := 198)), hP.to hP.1 (fun _ _ _ => rfl) (OPT_no (by have h9 := hno; rw [show g = G by omega] at h9; exact h9) he), hN, fun _ _ _ => rfl⟩
      · skip
        refine w_iload_n (pc' := 18) (i := 3) (by rfl) (by rfl) dX12_lessen_17 rfl ?_
        refine w_iload_n (pc' := 19) (i := 2) (by rfl) (by rfl) dX12_lessen_18 rfl ?_
        refine w_icmp_eq (pc' := 22) (t := 173) dX12_lessen_19 rfl rfl (fun c_19 => ?_) (fun c_19 => ?_)
        · skip
          refine w_return rfl dX12_lessen_173 ?_
          first
            | exact ⟨rfl, σ 199, σ 200, C, Q, (by rw [show X = σ 198 by exact hX]; exact gUr_id (σ := gUr (gUr (gUr (gUr σ 201 C) 202 Q) 199 (σ 199)) 200 (σ 200)) (k := 198)), hP.to hP.1 (fun _ _ _ => rfl) (OPT_at hno (by omega) (fun _ _ _ => rfl) (by omega) he), hN, fun _ _ _ => rfl⟩
            | exact ⟨rfl, σ 199, σ 200, C, Q, (by rw [show X = σ 198 by exact hX]; exact gUr_id (σ := gUr (gUr (gUr (gUr σ 201 C) 202 Q) 199 (σ 199)) 200 (σ 200)) (k := 198)), hP.to hP.1 (fun _ _ _ => rfl) (OPT_no (by have h9 := hno; rw [show g = G by omega] at h9; exact h9) he), hN, fun _ _ _ => rfl⟩
        · skip
          refine w_aload_n (pc' := 23) (i := 0) (by rfl) (by rfl) dX12_lessen_22 rfl ?_
          refine w_getS (pc' := 26) (q := 197) fg_X12_211 kd_133 sf_X12_100 gr_133_100 dX12_lessen_23 rfl ?_
          refine w_bipush (pc' := 28) (by decide) (by decide) dX12_lessen_26 rfl ?_
          refine w_iload_n (pc' := 29) (i := 1) (by rfl) (by rfl) dX12_lessen_28 rfl ?_
          refine v_imul (pc' := 30) (by omega) dX12_lessen_29 rfl ?_
          refine w_iload_n (pc' := 31) (i := 3) (by rfl) (by rfl) dX12_lessen_30 rfl ?_
          refine v_iadd (pc' := 32) (by omega) dX12_lessen_31 rfl ?_
          refine w_zald (pc' := 33) kd_197 (by omega) (by omega) dX12_lessen_32 rfl (fun z_32 => ?_)
          show Wp _ _ _ _ _ _ [gI (σ 197 ((120 * e) + g))]
          refine w_if_eq (pc' := 36) (t := 167) dX12_lessen_33 rfl rfl (fun c_33 => ?_) (fun c_33 => ?_)
          · skip
            refine v_iinc (pc' := 170) (x := g) (ls' := [gR 133, gI e, gI (σ 199 e), gI (g + 1), gX 1, gX 1]) (by omega) (by decide) (by rfl) (by rfl) dX12_lessen_167 rfl ?_
            refine w_goto (pc' := 9) dX12_lessen_170 rfl ?_
            
            exact ih_9 _ (by omega) (g + 1) C Q X rfl (by omega) (by omega) (by first | exact hX | rfl) (by first | (have t := tk_row (M := σ 199) (g := g) hne; exact les_shut (N1 := (updI (updI (σ 200) g e) (σ 199 e) (-1))) (R := R9) hP hno hN he ⟨g0, by omega⟩ hf hgM hu (by omega) (by omega) (fun z _ _ => les_n1 hgM) (by rw [← t]; exact r1) r2 (by rw [← t]; exact r3)) | exact hno.miss he g0 (fun h => absurd ((hFg () (by omega)).mpr h) (by omega)) | (obtain ⟨i, i0, i1, hi⟩ : ∃ i, 0 ≤ i ∧ i < e ∧ σ 199 i = g := Classical.byContradiction fun w => absurd ((hfx g g0 (by omega)).mpr (fun i a b c => w ⟨i, a, b, c⟩)) (by omega); exact hno.used he g0 i0 i1 hi))
          · skip
            refine w_aload_n (pc' := 37) (i := 0) (by rfl) (by rfl) dX12_lessen_36 rfl ?_
            refine w_getS (pc' := 40) (q := 198) fg_X12_214 kd_133 sf_X12_101 gr_133_101 dX12_lessen_37 rfl ?_
            refine w_iload_n (pc' := 41) (i := 3) (by rfl) (by rfl) dX12_lessen_40 rfl ?_
            refine w_zald (pc' := 42) kd_198 (by omega) (by omega) dX12_lessen_41 rfl (fun z_41 => ?_)
            show Wp _ _ _ _ _ _ [gI (X g)]
            refine w_if_eq (pc' := 45) (t := 48) dX12_lessen_42 rfl rfl (fun c_42 => ?_) (fun c_42 => ?_)
            · skip
              have hf : F e g := (hFg () (by omega)).mp (by omega)
              have hu : ∀ i, 0 ≤ i → i < e → σ 199 i ≠ g := (hfx g g0 (by omega)).mp (by omega)
              have hgM : σ 199 e ≠ g := by omega
              refine w_aload_n (pc' := 49) (i := 0) (by rfl) (by rfl) dX12_lessen_48 rfl ?_
              refine w_getS (pc' := 52) (q := 200) fg_X12_220 kd_133 sf_X12_103 gr_133_103 dX12_lessen_49 rfl ?_
              refine w_iload_n (pc' := 53) (i := 3) (by rfl) (by rfl) dX12_lessen_52 rfl ?_
              refine w_iald (pc' := 54) kd_200 (by omega) (by omega) dX12_lessen_53 rfl ?_
              show Wp _ _ _ _ _ _ [gI ((σ 200) g)]
              refine w_istore (pc' := 56) (ls' := [gR 133, gI e, gI (σ 199 e), gI g, gI ((σ 200) g), gX 1]) (by decide) (by rfl) dX12_lessen_54 rfl ?_
              refine w_aload_n (pc' := 57) (i := 0) (by rfl) (by rfl) dX12_lessen_56 rfl ?_
              refine w_getS (pc' := 60) (q := 199) fg_X12_217 kd_133 sf_X12_102 gr_133_102 dX12_lessen_57 rfl ?_
              refine w_iload_n (pc' := 61) (i := 1) (by rfl) (by rfl) dX12_lessen_60 rfl ?_
              refine w_iload_n (pc' := 62) (i := 3) (by rfl) (by rfl) dX12_lessen_61 rfl ?_
              refine w_iast (pc' := 63) kd_199 (by omega) (by omega) dX12_lessen_62 rfl ?_
              refine Wp.heq (σ' := gUr (gUr (gUr (gUr (gUr σ 201 C) 202 Q) 199 (updI (σ 199) e g)) 200 (σ 200)) 198 X) ((gUp_cr (by decide)).trans (congrArg (fun z => gUr z 198 X) ((gUp_cr (by decide)).trans (congrArg (fun z => gUr z 200 (σ 200)) gUp_row)))) ?_
              refine w_aload_n (pc' := 64) (i := 0) (by rfl) (by rfl) dX12_lessen_63 rfl ?_
              refine w_getS (pc' := 67) (q := 200) fg_X12_220 kd_133 sf_X12_103 gr_133_103 dX12_lessen_64 rfl ?_
              refine w_iload_n (pc' := 68) (i := 3) (by rfl) (by rfl) dX12_lessen_67 rfl ?_
              refine w_iload_n (pc' := 69) (i := 1) (by rfl) (by rfl) dX12_lessen_68 rfl ?_
              refine w_iast (pc' := 70) kd_200 (by omega) (by omega) dX12_lessen_69 rfl ?_
              refine Wp.heq (σ' := gUr (gUr (gUr (gUr (gUr σ 201 C) 202 Q) 199 (updI (σ 199) e g)) 200 (updI (σ 200) g e)) 198 X) ((gUp_cr (by decide)).trans (congrArg (fun z => gUr z 198 X) gUp_row)) ?_
              refine w_iload_n (pc' := 71) (i := 2) (by rfl) (by rfl) dX12_lessen_70 rfl ?_
              refine w_iconst (pc' := 72) (by decide) dX12_lessen_71 rfl ?_
              refine w_icmp_eq (pc' := 75) (t := 82) dX12_lessen_72 rfl rfl (fun c_72 => ?_) (fun c_72 => ?_)
              · skip
                refine w_iload (pc' := 84) (by rfl) dX12_lessen_82 rfl ?_
                refine w_iconst (pc' := 85) (by decide) dX12_lessen_84 rfl ?_
                refine w_icmp_ne (pc' := 88) (t := 89) dX12_lessen_85 rfl rfl (fun c_85 => ?_) (fun c_85 => ?_)
                · skip
                  have hNg := (hN.1 g g0 (by omega)).resolve_left (by omega)
                  have hne : σ 200 g ≠ e := fun k => hgM (by rw [k] at hNg; exact hNg.2.2)
                  refine w_aload_n (pc' := 90) (i := 0) (by rfl) (by rfl) dX12_lessen_89 rfl ?_
                  refine w_getS (pc' := 93) (q := 199) fg_X12_217 kd_133 sf_X12_102 gr_133_102 dX12_lessen_90 rfl ?_
                  refine w_iload (pc' := 95) (by rfl) dX12_lessen_93 rfl ?_
                  refine w_iconst (pc' := 96) (by decide) dX12_lessen_95 rfl ?_
                  refine w_iast (pc' := 97) kd_199 (by omega) (by omega) dX12_lessen_96 rfl ?_
                  refine Wp.heq (σ' := gUr (gUr (gUr (gUr (gUr σ 201 C) 202 Q) 199 (updI (updI (σ 199) e g) ((σ 200) g) (-1))) 200 (updI (σ 200) g e)) 198 X) ((gUp_cr (by decide)).trans (congrArg (fun z => gUr z 198 X) ((gUp_cr (by decide)).trans (congrArg (fun z => gUr z 200 (updI (σ 200) g e)) gUp_row)))) ?_
                  refine w_aload_n (pc' := 98) (i := 0) (by rfl) (by rfl) dX12_lessen_97 rfl ?_
                  refine w_getS (pc' := 101) (q := 198) fg_X12_214 kd_133 sf_X12_101 gr_133_101 dX12_lessen_98 rfl ?_
                  refine w_iload_n (pc' := 102) (i := 3) (by rfl) (by rfl) dX12_lessen_101 rfl ?_
                  refine w_iconst (pc' := 103) (by decide) dX12_lessen_102 rfl ?_
                  refine w_zast (pc' := 104) kd_198 (.inr rfl) (by omega) (by omega) dX12_lessen_103 rfl ?_
                  refine Wp.heq (σ' := gUr (gUr (gUr (gUr (gUr σ 201 C) 202 Q) 199 (updI (updI (σ 199) e g) ((σ 200) g) (-1))) 200 (updI (σ 200) g e)) 198 (updI X g 1)) gUp_row ?_
                  refine w_iload_n (pc' := 105) (i := 2) (by rfl) (by rfl) dX12_lessen_104 rfl ?_
                  refine w_iconst (pc' := 106) (by decide) dX12_lessen_105 rfl ?_
                  refine w_icmp_eq (pc' := 109) (t := 117) dX12_lessen_106 rfl rfl (fun c_106 => ?_) (fun c_106 => ?_)
                  · skip
                    refine w_iconst (pc' := 118) (by decide) dX12_lessen_117 rfl ?_
                    refine w_goto (pc' := 122) dX12_lessen_118 rfl ?_
                    refine w_istore (pc' := 124) (ls' := [gR 133, gI e, gI (σ 199 e), gI g, gI ((σ 200) g), gI 1]) (by decide) (by rfl) dX12_lessen_122 rfl ?_
                    refine w_aload_n (pc' := 125) (i := 0) (by rfl) (by rfl) dX12_lessen_124 rfl ?_
                    refine w_getS (pc' := 128) (q := 198) fg_X12_214 kd_133 sf_X12_101 gr_133_101 dX12_lessen_125 rfl ?_
                    refine w_iload_n (pc' := 129) (i := 3) (by rfl) (by rfl) dX12_lessen_128 rfl ?_
                    refine w_iconst (pc' := 130) (by decide) dX12_lessen_129 rfl ?_
                    refine w_zast (pc' := 131) kd_198 (.inl rfl) (by omega) (by omega) dX12_lessen_130 rfl ?_
                    refine Wp.heq (σ' := gUr (gUr (gUr (gUr (gUr σ 201 C) 202 Q) 199 (updI (updI (σ 199) e g) ((σ 200) g) (-1))) 200 (updI (σ 200) g e)) 198 (updI (updI X g 1) g 0)) gUp_row ?_
                    refine w_iload (pc' := 133) (by rfl) dX12_lessen_131 rfl ?_
                    refine w_if_eq (pc' := 136) (t := 137) dX12_lessen_133 rfl rfl (fun c_133 => ?_) (fun c_133 => ?_)
                    · skip
                      exact absurd c_133 (by decide)
                    · skip
                      refine w_return rfl dX12_lessen_136 ?_
                      have t := tk_row (M := σ 199) (g := g) hne
                      have r9 := les_done (M2 := (updI (updI (σ 199) e g) ((σ 200) g) (-1))) (N2 := (updI (σ 200) g e)) hP hno hN he ⟨g0, by omega⟩ hf hgM hu (Or.inr (by omega)) (fun i a b => by rw [t]) (by intro z a b; exact les_n0 (by omega) a)
                      exact ⟨rfl, (updI (updI (σ 199) e g) ((σ 200) g) (-1)), (updI (σ 200) g e), C, Q, (by rw [show (updI (updI X g 1) g 0) = σ 198 by rw [hX]; exact les_backX (by omega)]; exact gUr_id (σ := gUr (gUr (gUr (gUr σ 201 C) 202 Q) 199 (updI (updI (σ 199) e g) ((σ 200) g) (-1))) 200 (updI (σ 200) g e)) (k := 198)), r9.1, r9.2.1, r9.2.2⟩
                  · skip
                    exfalso; omega
                · skip
                  refine w_return rfl dX12_lessen_88 ?_
                  have r9 := les_done (M2 := (updI (σ 199) e g)) (N2 := (updI (σ 200) g e)) hP hno hN he ⟨g0, by omega⟩ hf hgM hu (Or.inl (by omega)) (fun i a b => les_m0 (by omega) a) (by intro z a b; first | exact les_n0 (by omega) a | exact les_n1 hgM)
                  exact ⟨rfl, (updI (σ 199) e g), (updI (σ 200) g e), C, Q, (by rw [show X = σ 198 by exact hX]; exact gUr_id (σ := gUr (gUr (gUr (gUr σ 201 C) 202 Q) 199 (updI (σ 199) e g)) 200 (updI (σ 200) g e)) (k := 198)), r9.1, r9.2.1, r9.2.2⟩
              · skip
                refine w_aload_n (pc' := 76) (i := 0) (by rfl) (by rfl) dX12_lessen_75 rfl ?_
                refine w_getS (pc' := 79) (q := 200) fg_X12_220 kd_133 sf_X12_103 gr_133_103 dX12_lessen_76 rfl ?_
                refine w_iload_n (pc' := 80) (i := 2) (by rfl) (by rfl) dX12_lessen_79 rfl ?_
                refine w_iconst (pc' := 81) (by decide) dX12_lessen_80 rfl ?_
                refine w_iast (pc' := 82) kd_200 (by have := hd (); omega) (by have := hd (); omega) dX12_lessen_81 rfl ?_
                refine Wp.heq (σ' := gUr (gUr (gUr (gUr (gUr σ 201 C) 202 Q) 199 (updI (σ 199) e g)) 200 (updI (updI (σ 200) g e) (σ 199 e) (-1))) 198 X) ((gUp_cr (by decide)).trans (congrArg (fun z => gUr z 198 X) gUp_row)) ?_
                refine w_iload (pc' := 84) (by rfl) dX12_lessen_82 rfl ?_
                refine w_iconst (pc' := 85) (by decide) dX12_lessen_84 rfl ?_
                refine w_icmp_ne (pc' := 88) (t := 89) dX12_lessen_85 rfl rfl (fun c_85 => ?_) (fun c_85 => ?_)
                · skip
                  have hNg := (hN.1 g g0 (by omega)).resolve_left (by omega)
                  have hne : σ 200 g ≠ e := fun k => hgM (by rw [k] at hNg; exact hNg.2.2)
                  refine w_aload_n (pc' := 90) (i := 0) (by rfl) (by rfl) dX12_lessen_89 rfl ?_
                  refine w_getS (pc' := 93) (q := 199) fg_X12_217 kd_133 sf_X12_102 gr_133_102 dX12_lessen_90 rfl ?_
                  refine w_iload (pc' := 95) (by rfl) dX12_lessen_93 rfl ?_
                  refine w_iconst (pc' := 96) (by decide) dX12_lessen_95 rfl ?_
                  refine w_iast (pc' := 97) kd_199 (by omega) (by omega) dX12_lessen_96 rfl ?_
                  refine Wp.heq (σ' := gUr (gUr (gUr (gUr (gUr σ 201 C) 202 Q) 199 (updI (updI (σ 199) e g) ((σ 200) g) (-1))) 200 (updI (updI (σ 200) g e) (σ 199 e) (-1))) 198 X) ((gUp_cr (by decide)).trans (congrArg (fun z => gUr z 198 X) ((gUp_cr (by decide)).trans (congrArg (fun z => gUr z 200 (updI (updI (σ 200) g e) (σ 199 e) (-1))) gUp_row)))) ?_
                  refine w_aload_n (pc' := 98) (i := 0) (by rfl) (by rfl) dX12_lessen_97 rfl ?_
                  refine w_getS (pc' := 101) (q := 198) fg_X12_214 kd_133 sf_X12_101 gr_133_101 dX12_lessen_98 rfl ?_
                  refine w_iload_n (pc' := 102) (i := 3) (by rfl) (by rfl) dX12_lessen_101 rfl ?_
                  refine w_iconst (pc' := 103) (by decide) dX12_lessen_102 rfl ?_
                  refine w_zast (pc' := 104) kd_198 (.inr rfl) (by omega) (by omega) dX12_lessen_103 rfl ?_
                  refine Wp.heq (σ' := gUr (gUr (gUr (gUr (gUr σ 201 C) 202 Q) 199 (updI (updI (σ 199) e g) ((σ 200) g) (-1))) 200 (updI (updI (σ 200) g e) (σ 199 e) (-1))) 198 (updI X g 1)) gUp_row ?_
                  refine w_iload_n (pc' := 105) (i := 2) (by rfl) (by rfl) dX12_lessen_104 rfl ?_
                  refine w_iconst (pc' := 106) (by decide) dX12_lessen_105 rfl ?_
                  refine w_icmp_eq (pc' := 109) (t := 117) dX12_lessen_106 rfl rfl (fun c_106 => ?_) (fun c_106 => ?_)
                  · skip
                    exfalso; omega
                  · skip
                    have hM1 : MT E G F (updI (updI (σ 199) e g) (σ 200 g) (-1)) := by rw [tk_row hne]; exact MT_take hP.1.1 hN he ⟨g0, by omega⟩ hf
                    have hN1 : MN E G (updI (updI (σ 199) e g) (σ 200 g) (-1)) (updI (updI (σ 200) g e) (σ 199 e) (-1)) := by rw [tk_row hne]; exact MN_take hP.1.1 hN he ⟨g0, by omega⟩ hgM (fun z _ _ => les_n1 hgM)
                    have hYN1 := FRE_N (e := e) hN1
                    have hY1 : ∀ z, 0 ≤ z → z < G → ((updI X g 1) z = 0 ↔ FRE e (updI (updI (σ 199) e g) (σ 200 g) (-1)) z) := by
                      intro z z0 z1
                      have lo := tk_low hN (e := e) ⟨g0, by omega⟩ hu
                      rw [tk_row hne]
                      by_cases c : z = g
                      · rw [c, updI_eq]
                        exact ⟨fun w => by omega, fun w => absurd (if_pos rfl) (w e he.1 (Int.le_refl e))⟩
                      · rw [updI_ne c, hX, hfx z z0 z1]
                        refine ⟨fun w i i0 i1 => ?_, fun w i i0 i1 => by rw [← lo i i0 i1]; exact w i i0 (by omega)⟩
                        by_cases d : i = e
                        · rw [d, show tkM (σ 199) e g (σ 200 g) e = g from if_pos rfl]; exact fun k => c k.symm
                        · rw [lo i i0 (by omega)]; exact w i i0 (by omega)
                    refine w_aload_n (pc' := 110) (i := 0) (by rfl) (by rfl) dX12_lessen_109 rfl ?_
                    refine w_iload_n (pc' := 111) (i := 1) (by rfl) (by rfl) dX12_lessen_110 rfl ?_
                    refine w_callV (pc' := 114) (d' := 2) (av := [gI e]) mi_mX12_findsBehind lk_X12_577 rfl ci_X12 kd_133 rfl (Nat.le_of_ble_eq_true rfl) (Nat.le_of_ble_eq_true rfl) dX12_lessen_111 rfl (q_findsBehind (σ := gUr (gUr (gUr (gUr (gUr σ 201 C) 202 Q) 199 (updI (updI (σ 199) e g) ((σ 200) g) (-1))) 200 (updI (updI (σ 200) g e) (σ 199 e) (-1))) 198 (updI X g 1)) (lo := e + 1) hE hG (by omega) e42 hF hY1 hM1 hN1 e he rfl e99 hYN1) (fun v_111 σ_111 q_111 => ?_)
                    obtain ⟨b111, M111, N111, C111, Q111, rfl, rfl, hr111⟩ := q_111
                    refine Wp.heq (σ' := gUr (gUr (gUr (gUr (gUr σ 201 C111) 202 Q111) 199 M111) 200 N111) 198 (updI X g 1)) ((congrArg (fun z => gUr z 200 N111) ((congrArg (fun z => gUr z 199 M111) ((congrArg (fun z => gUr z 202 Q111) ((gUr_cr (by decide)).trans (congrArg (fun z => gUr z 198 (updI X g 1)) ((gUr_cr (by decide)).trans (congrArg (fun z => gUr z 200 (updI (updI (σ 200) g e) (σ 199 e) (-1))) ((gUr_cr (by decide)).trans (congrArg (fun z => gUr z 199 (updI (updI (σ 199) e g) ((σ 200) g) (-1))) ((gUr_cr (by decide)).trans (congrArg (fun z => gUr z 202 Q) gUr_same))))))))).trans ((gUr_cr (by decide)).trans (congrArg (fun z => gUr z 198 (updI X g 1)) ((gUr_cr (by decide)).trans (congrArg (fun z => gUr z 200 (updI (updI (σ 200) g e) (σ 199 e) (-1))) ((gUr_cr (by decide)).trans (congrArg (fun z => gUr z 199 (updI (updI (σ 199) e g) ((σ 200) g) (-1))) gUr_same)))))))).trans ((gUr_cr (by decide)).trans (congrArg (fun z => gUr z 198 (updI X g 1)) ((gUr_cr (by decide)).trans (congrArg (fun z => gUr z 200 (updI (updI (σ 200) g e) (σ 199 e) (-1))) gUr_same)))))).trans ((gUr_cr (by decide)).trans (congrArg (fun z => gUr z 198 (updI X g 1)) gUr_same))) ?_
                    show Wp _ _ _ _ _ _ [gI b111]
                    refine w_if_eq (pc' := 117) (t := 121) dX12_lessen_114 rfl rfl (fun c_114 => ?_) (fun c_114 => ?_)
                    · skip
                      refine w_iconst (pc' := 122) (by decide) dX12_lessen_121 rfl ?_
                      refine w_istore (pc' := 124) (ls' := [gR 133, gI e, gI (σ 199 e), gI g, gI ((σ 200) g), gI 0]) (by decide) (by rfl) dX12_lessen_122 rfl ?_
                      refine w_aload_n (pc' := 125) (i := 0) (by rfl) (by rfl) dX12_lessen_124 rfl ?_
                      refine w_getS (pc' := 128) (q := 198) fg_X12_214 kd_133 sf_X12_101 gr_133_101 dX12_lessen_125 rfl ?_
                      refine w_iload_n (pc' := 129) (i := 3) (by rfl) (by rfl) dX12_lessen_128 rfl ?_
                      refine w_iconst (pc' := 130) (by decide) dX12_lessen_129 rfl ?_
                      refine w_zast (pc' := 131) kd_198 (.inl rfl) (by omega) (by omega) dX12_lessen_130 rfl ?_
                      refine Wp.heq (σ' := gUr (gUr (gUr (gUr (gUr σ 201 C111) 202 Q111) 199 M111) 200 N111) 198 (updI (updI X g 1) g 0)) gUp_row ?_
                      refine w_iload (pc' := 133) (by rfl) dX12_lessen_131 rfl ?_
                      refine w_if_eq (pc' := 136) (t := 137) dX12_lessen_133 rfl rfl (fun c_133 => ?_) (fun c_133 => ?_)
                      · skip
                        refine w_aload_n (pc' := 138) (i := 0) (by rfl) (by rfl) dX12_lessen_137 rfl ?_
                        refine w_getS (pc' := 141) (q := 199) fg_X12_217 kd_133 sf_X12_102 gr_133_102 dX12_lessen_138 rfl ?_
                        refine w_iload (pc' := 143) (by rfl) dX12_lessen_141 rfl ?_
                        refine w_iload_n (pc' := 144) (i := 3) (by rfl) (by rfl) dX12_lessen_143 rfl ?_
                        refine w_iast (pc' := 145) kd_199 (by omega) (by omega) dX12_lessen_144 rfl ?_
                        refine Wp.heq (σ' := gUr (gUr (gUr (gUr (gUr σ 201 C111) 202 Q111) 199 (updI M111 ((σ 200) g) g)) 200 N111) 198 (updI (updI X g 1) g 0)) ((gUp_cr (by decide)).trans (congrArg (fun z => gUr z 198 (updI (updI X g 1) g 0)) ((gUp_cr (by decide)).trans (congrArg (fun z => gUr z 200 N111) gUp_row)))) ?_
                        refine w_aload_n (pc' := 146) (i := 0) (by rfl) (by rfl) dX12_lessen_145 rfl ?_
                        refine w_getS (pc' := 149) (q := 200) fg_X12_220 kd_133 sf_X12_103 gr_133_103 dX12_lessen_146 rfl ?_
                        refine w_iload_n (pc' := 150) (i := 3) (by rfl) (by rfl) dX12_lessen_149 rfl ?_
                        refine w_iload (pc' := 152) (by rfl) dX12_lessen_150 rfl ?_
                        refine w_iast (pc' := 153) kd_200 (by omega) (by omega) dX12_lessen_152 rfl ?_
                        refine Wp.heq (σ' := gUr (gUr (gUr (gUr (gUr σ 201 C111) 202 Q111) 199 (updI M111 ((σ 200) g) g)) 200 (updI N111 g ((σ 200) g))) 198 (updI (updI X g 1) g 0)) ((gUp_cr (by decide)).trans (congrArg (fun z => gUr z 198 (updI (updI X g 1) g 0)) gUp_row)) ?_
                        refine w_aload_n (pc' := 154) (i := 0) (by rfl) (by rfl) dX12_lessen_153 rfl ?_
                        refine w_getS (pc' := 157) (q := 199) fg_X12_217 kd_133 sf_X12_102 gr_133_102 dX12_lessen_154 rfl ?_
                        refine w_iload_n (pc' := 158) (i := 1) (by rfl) (by rfl) dX12_lessen_157 rfl ?_
                        refine w_iload_n (pc' := 159) (i := 2) (by rfl) (by rfl) dX12_lessen_158 rfl ?_
                        refine w_iast (pc' := 160) kd_199 (by omega) (by omega) dX12_lessen_159 rfl ?_
                        refine Wp.heq (σ' := gUr (gUr (gUr (gUr (gUr σ 201 C111) 202 Q111) 199 (updI (updI M111 ((σ 200) g) g) e (σ 199 e))) 200 (updI N111 g ((σ 200) g))) 198 (updI (updI X g 1) g 0)) ((gUp_cr (by decide)).trans (congrArg (fun z => gUr z 198 (updI (updI X g 1) g 0)) ((gUp_cr (by decide)).trans (congrArg (fun z => gUr z 200 (updI N111 g ((σ 200) g))) gUp_row)))) ?_
                        refine w_aload_n (pc' := 161) (i := 0) (by rfl) (by rfl) dX12_lessen_160 rfl ?_
                        refine w_getS (pc' := 164) (q := 200) fg_X12_220 kd_133 sf_X12_103 gr_133_103 dX12_lessen_161 rfl ?_
                        refine w_iload_n (pc' := 165) (i := 2) (by rfl) (by rfl) dX12_lessen_164 rfl ?_
                        refine w_iload_n (pc' := 166) (i := 1) (by rfl) (by rfl) dX12_lessen_165 rfl ?_
                        refine w_iast (pc' := 167) kd_200 (by have := hd (); omega) (by have := hd (); omega) dX12_lessen_166 rfl ?_
                        refine Wp.heq (σ' := gUr (gUr (gUr (gUr (gUr σ 201 C111) 202 Q111) 199 (updI (updI M111 ((σ 200) g) g) e (σ 199 e))) 200 (updI (updI N111 g ((σ 200) g)) (σ 199 e) e)) 198 (updI (updI X g 1) g 0)) ((gUp_cr (by decide)).trans (congrArg (fun z => gUr z 198 (updI (updI X g 1) g 0)) gUp_row)) ?_
                        refine v_iinc (pc' := 170) (x := g) (ls' := [gR 133, gI e, gI (σ 199 e), gI (g + 1), gI ((σ 200) g), gI 0]) (by omega) (by decide) (by rfl) (by rfl) dX12_lessen_167 rfl ?_
                        refine w_goto (pc' := 9) dX12_lessen_170 rfl ?_
                        refine Wp.lose (ls' := [gR 133, gI e, gI (σ 199 e), gI (g + 1), gX 1, gX 1]) ⟨.inr rfl, ⟨.inr rfl, ⟨.inr rfl, ⟨.inr rfl, ⟨.inl rfl, ⟨.inl rfl, trivial⟩⟩⟩⟩⟩⟩ ?_
                        obtain ⟨w1, w2, w3, R9, r1, r2, r3⟩ := hr111.resolve_left (by intro k; omega)
                        rw [show updI (updI M111 (σ 200 g) g) e (σ 199 e) = σ 199 by rw [show M111 = (updI (updI (σ 199) e g) (σ 200 g) (-1)) from w2]; exact les_backM hne hNg.2.2, show updI (updI N111 g (σ 200 g)) (σ 199 e) e = σ 200 by rw [show N111 = (updI (updI (σ 200) g e) (σ 199 e) (-1)) from w3]; exact les_backN hgM rfl (hN.2 e he.1 he.2 (by omega)), show updI (updI X g 1) g 0 = σ 198 by rw [hX]; exact les_backX (by omega)]
                        exact ih_9 _ (by omega) (g + 1) C111 Q111 (σ 198) rfl (by omega) (by omega) (by first | exact hX | rfl) (by first | (have t := tk_row (M := σ 199) (g := g) hne; exact les_shut (N1 := (updI (updI (σ 200) g e) (σ 199 e) (-1))) (R := R9) hP hno hN he ⟨g0, by omega⟩ hf hgM hu (by omega) (by omega) (fun z _ _ => les_n1 hgM) (by rw [← t]; exact r1) r2 (by rw [← t]; exact r3)) | exact hno.miss he g0 (fun h => absurd ((hFg () (by omega)).mpr h) (by omega)) | (obtain ⟨i, i0, i1, hi⟩ : ∃ i, 0 ≤ i ∧ i < e ∧ σ 199 i = g := Classical.byContradiction fun w => absurd ((hfx g g0 (by omega)).mpr (fun i a b c => w ⟨i, a, b, c⟩)) (by omega); exact hno.used he g0 i0 i1 hi))
                      · skip
                        exact absurd c_133 (by decide)
                    · skip
                      refine w_iconst (pc' := 118) (by decide) dX12_lessen_117 rfl ?_
                      refine w_goto (pc' := 122) dX12_lessen_118 rfl ?_
                      refine w_istore (pc' := 124) (ls' := [gR 133, gI e, gI (σ 199 e), gI g, gI ((σ 200) g), gI 1]) (by decide) (by rfl) dX12_lessen_122 rfl ?_
                      refine w_aload_n (pc' := 125) (i := 0) (by rfl) (by rfl) dX12_lessen_124 rfl ?_
                      refine w_getS (pc' := 128) (q := 198) fg_X12_214 kd_133 sf_X12_101 gr_133_101 dX12_lessen_125 rfl ?_
                      refine w_iload_n (pc' := 129) (i := 3) (by rfl) (by rfl) dX12_lessen_128 rfl ?_
                      refine w_iconst (pc' := 130) (by decide) dX12_lessen_129 rfl ?_
                      refine w_zast (pc' := 131) kd_198 (.inl rfl) (by omega) (by omega) dX12_lessen_130 rfl ?_
                      refine Wp.heq (σ' := gUr (gUr (gUr (gUr (gUr σ 201 C111) 202 Q111) 199 M111) 200 N111) 198 (updI (updI X g 1) g 0)) gUp_row ?_
                      refine w_iload (pc' := 133) (by rfl) dX12_lessen_131 rfl ?_
                      refine w_if_eq (pc' := 136) (t := 137) dX12_lessen_133 rfl rfl (fun c_133 => ?_) (fun c_133 => ?_)
                      · skip
                        exact absurd c_133 (by decide)
                      · skip
                        refine w_return rfl dX12_lessen_136 ?_
                        have t := tk_row (M := σ 199) (g := g) hne
                        obtain ⟨w1, x9, w2⟩ := hr111.resolve_right (fun k => by omega)
                        have w3 : AUG E G F (FRE e (updI (updI (σ 199) e g) (σ 200 g) (-1))) (e + 1) (updI (updI (σ 199) e g) (σ 200 g) (-1)) x9 M111 N111 := w2
                        rw [t] at w3
                        have r9 := les_aug hP hno hN he ⟨g0, by omega⟩ hgM hu (by omega) (by omega) w3
                        exact ⟨rfl, M111, N111, C111, Q111, (by rw [show (updI (updI X g 1) g 0) = σ 198 by rw [hX]; exact les_backX (by omega)]; exact gUr_id (σ := gUr (gUr (gUr (gUr σ 201 C111) 202 Q111) 199 M111) 200 N111) (k := 198)), r9.1, r9.2.1, r9.2.2⟩
                · skip
                  refine w_return rfl dX12_lessen_88 ?_
                  have r9 := les_done (M2 := (updI (σ 199) e g)) (N2 := (updI (updI (σ 200) g e) (σ 199 e) (-1))) hP hno hN he ⟨g0, by omega⟩ hf hgM hu (Or.inl (by omega)) (fun i a b => les_m0 (by omega) a) (by intro z a b; first | exact les_n0 (by omega) a | exact les_n1 hgM)
                  exact ⟨rfl, (updI (σ 199) e g), (updI (updI (σ 200) g e) (σ 199 e) (-1)), C, Q, (by rw [show X = σ 198 by exact hX]; exact gUr_id (σ := gUr (gUr (gUr (gUr σ 201 C) 202 Q) 199 (updI (σ 199) e g)) 200 (updI (updI (σ 200) g e) (σ 199 e) (-1))) (k := 198)), r9.1, r9.2.1, r9.2.2⟩
            · skip
              refine w_goto (pc' := 167) dX12_lessen_45 rfl ?_
              refine v_iinc (pc' := 170) (x := g) (ls' := [gR 133, gI e, gI (σ 199 e), gI (g + 1), gX 1, gX 1]) (by omega) (by decide) (by rfl) (by rfl) dX12_lessen_167 rfl ?_
              refine w_goto (pc' := 9) dX12_lessen_170 rfl ?_
              
              exact ih_9 _ (by omega) (g + 1) C Q X rfl (by omega) (by omega) (by first | exact hX | rfl) (by first | (have t := tk_row (M := σ 199) (g := g) hne; exact les_shut (N1 := (updI (updI (σ 200) g e) (σ 199 e) (-1))) (R := R9) hP hno hN he ⟨g0, by omega⟩ hf hgM hu (by omega) (by omega) (fun z _ _ => les_n1 hgM) (by rw [← t]; exact r1) r2 (by rw [← t]; exact r3)) | exact hno.miss he g0 (fun h => absurd ((hFg () (by omega)).mpr h) (by omega)) | (obtain ⟨i, i0, i1, hi⟩ : ∃ i, 0 ≤ i ∧ i < e ∧ σ 199 i = g := Classical.byContradiction fun w => absurd ((hfx g g0 (by omega)).mpr (fun i a b c => w ⟨i, a, b, c⟩)) (by omega); exact hno.used he g0 i0 i1 hi))
  refine Wp.heq (σ' := gUr (gUr (gUr (gUr (gUr σ 201 (σ 201)) 202 (σ 202)) 199 (σ 199)) 200 (σ 200)) 198 (σ 198)) rows5 ?_
  exact hl_9 _ 0 (σ 201) (σ 202) (σ 198) rfl (by omega) (by omega) (by rfl) (by intro M a b z z0 z1; omega)
