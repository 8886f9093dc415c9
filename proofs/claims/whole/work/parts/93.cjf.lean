/-! joined: the class settles entry by entry (gen/mod_cjf.py) -/
theorem rowsG {σ : gH} : σ = gUr (gUr (gUp (gUr (gUr (gUr σ 120 (σ 120)) 123 (σ 123)) 124 (σ 124)) 112 16 (σ 112 16)) 121 (σ 121)) 122 (σ 122) := by
  rw [← rowsR, show gUr σ 121 (σ 121) = σ from gUr_id, show gUr σ 122 (σ 122) = σ from gUr_id]
theorem shut_lo {E : Int} {M : Int → Int} {e g z : Int} (lo : ∀ i, 0 ≤ i → i < e → tkM M e g z i = M i) (he : 0 ≤ e) (y : Int) : (FRE e (tkM M e g z) y) ↔ ((∀ i, 0 ≤ i → i < e → M i ≠ y) ∧ y ≠ g) := by
  refine ⟨fun w => ⟨fun i i0 i1 => by rw [← lo i i0 i1]; exact w i i0 (by omega), fun k => w e he (Int.le_refl e) ((if_pos rfl).trans k.symm)⟩, fun w i i0 i1 => ?_⟩
  by_cases d : i = e
  · rw [d, show tkM M e g z e = g from if_pos rfl]; exact fun k => w.2 k.symm
  · rw [lo i i0 (by omega)]; exact w.1 i i0 (by omega)
set_option maxHeartbeats 4000000 in
theorem kj_force {σ : gH} {E : Int} {F : Int → Int → Prop} (hE : 0 ≤ E ∧ E ≤ 100) (hsz : σ 112 8 = E) (hF : ∀ e g, 0 ≤ e → e < E → 0 ≤ g → g < 120 → (fBt (σ 118) e g ↔ F e g)) (e g : Int) (he : 0 ≤ e ∧ e < E) (hg : 0 ≤ g ∧ g < 120) (hP : PHS E 120 F e (σ 121)) (hN : MN E 120 (σ 121) (σ 122)) (hno : NOG E 120 F e g (σ 121)) (hf : F e g) (hgM : σ 121 e ≠ g) (hu : ∀ i, 0 ≤ i → i < e → σ 121 i ≠ g) (hO : ∀ z, 0 ≤ z → z < 120 → (oBt (σ 119) z ↔ (∀ i, 0 ≤ i → i < e → σ 121 i ≠ z) ∧ z ≠ g)) : Mt mX6_force 3 [gR 112, gI e, gI g] σ (fun v σ' => ∃ (b : Int) (M2 N2 U C Q : Int → Int) (w : Int), v = gI b ∧ σ' = gUr (gUr (gUp (gUr (gUr (gUr σ 120 U) 123 C) 124 Q) 112 16 w) 121 M2) 122 N2 ∧ ((b = 1 ∧ PHS E 120 F (e + 1) M2 ∧ MN E 120 M2 N2 ∧ M2 e = g ∧ ∀ i, 0 ≤ i → i < e → M2 i = σ 121 i) ∨ (b = 0 ∧ M2 = σ 121 ∧ N2 = σ 122 ∧ NOG E 120 F e (g + 1) (σ 121)))) := by
  refine Mt.walk (ls := [gR 112, gI e, gI g, gX 1, gX 1]) pn_X6 rfl (fun _ _ h => by obtain ⟨_, _, _, _, _, _, _, h, _⟩ := h; cases h) (Nat.le_of_ble_eq_true rfl) rfl ?_
  have hd : ∀ _ : Unit, _ := fun _ => hP.1.1.1 e he.1 he.2
  have hng : ∀ _ : Unit, _ := fun _ => hN.1 g hg.1 hg.2
  refine Wp.heq (σ' := gUr (gUr (gUp (gUr (gUr (gUr σ 120 (σ 120)) 123 (σ 123)) 124 (σ 124)) 112 16 (σ 112 16)) 121 (σ 121)) 122 (σ 122)) rowsG ?_
  refine w_aload_n (pc' := 1) (i := 0) (by rfl) (by rfl) dX6_force_0 rfl ?_
  refine w_getS (pc' := 4) (q := 121) fg_X6_37 kd_112 sf_X6_12 gr_112_12 dX6_force_1 rfl ?_
  refine w_iload_n (pc' := 5) (i := 1) (by rfl) (by rfl) dX6_force_4 rfl ?_
  refine w_iald (pc' := 6) kd_121 (by omega) (by omega) dX6_force_5 rfl ?_
  show Wp _ _ _ _ _ _ [gI ((σ 121) e)]
  refine w_istore_n (pc' := 7) (i := 3) (ls' := [gR 112, gI e, gI g, gI ((σ 121) e), gX 1]) (by rfl) (by decide) (by rfl) dX6_force_6 rfl ?_
  refine w_aload_n (pc' := 8) (i := 0) (by rfl) (by rfl) dX6_force_7 rfl ?_
  refine w_getS (pc' := 11) (q := 122) fg_X6_40 kd_112 sf_X6_13 gr_112_13 dX6_force_8 rfl ?_
  refine w_iload_n (pc' := 12) (i := 2) (by rfl) (by rfl) dX6_force_11 rfl ?_
  refine w_iald (pc' := 13) kd_122 (by omega) (by omega) dX6_force_12 rfl ?_
  show Wp _ _ _ _ _ _ [gI ((σ 122) g)]
  refine w_istore (pc' := 15) (ls' := [gR 112, gI e, gI g, gI ((σ 121) e), gI ((σ 122) g)]) (by decide) (by rfl) dX6_force_13 rfl ?_
  refine w_aload_n (pc' := 16) (i := 0) (by rfl) (by rfl) dX6_force_15 rfl ?_
  refine w_getS (pc' := 19) (q := 121) fg_X6_37 kd_112 sf_X6_12 gr_112_12 dX6_force_16 rfl ?_
  refine w_iload_n (pc' := 20) (i := 1) (by rfl) (by rfl) dX6_force_19 rfl ?_
  refine w_iload_n (pc' := 21) (i := 2) (by rfl) (by rfl) dX6_force_20 rfl ?_
  refine w_iast (pc' := 22) kd_121 (by omega) (by omega) dX6_force_21 rfl ?_
  refine Wp.heq (σ' := gUr (gUr (gUp (gUr (gUr (gUr σ 120 (σ 120)) 123 (σ 123)) 124 (σ 124)) 112 16 (σ 112 16)) 121 (updI (σ 121) e g)) 122 (σ 122)) ((gUp_cr (by decide)).trans (congrArg (fun z => gUr z 122 (σ 122)) gUp_row)) ?_
  refine w_aload_n (pc' := 23) (i := 0) (by rfl) (by rfl) dX6_force_22 rfl ?_
  refine w_getS (pc' := 26) (q := 122) fg_X6_40 kd_112 sf_X6_13 gr_112_13 dX6_force_23 rfl ?_
  refine w_iload_n (pc' := 27) (i := 2) (by rfl) (by rfl) dX6_force_26 rfl ?_
  refine w_iload_n (pc' := 28) (i := 1) (by rfl) (by rfl) dX6_force_27 rfl ?_
  refine w_iast (pc' := 29) kd_122 (by omega) (by omega) dX6_force_28 rfl ?_
  refine Wp.heq (σ' := gUr (gUr (gUp (gUr (gUr (gUr σ 120 (σ 120)) 123 (σ 123)) 124 (σ 124)) 112 16 (σ 112 16)) 121 (updI (σ 121) e g)) 122 (updI (σ 122) g e)) gUp_row ?_
  refine w_iload_n (pc' := 30) (i := 3) (by rfl) (by rfl) dX6_force_29 rfl ?_
  refine w_if_lt (pc' := 33) (t := 46) dX6_force_30 rfl rfl (fun c_30 => ?_) (fun c_30 => ?_)
  · skip
    refine w_iload (pc' := 48) (by rfl) dX6_force_46 rfl ?_
    refine w_if_lt (pc' := 51) (t := 58) dX6_force_48 rfl rfl (fun c_48 => ?_) (fun c_48 => ?_)
    · skip
      refine w_iconst (pc' := 59) (by decide) dX6_force_58 rfl ?_
      refine w_zreturn rfl (.inr rfl) dX6_force_59 ?_
      have h8 := hd ()
      have h9 := hng ()
      have r9 := les_done (M2 := (updI (σ 121) e g)) (N2 := (updI (σ 122) g e)) hP hno hN he hg hf hgM hu (Or.inl (by omega)) (fun i a b => les_m0 (by omega) a) (fun z a b => les_n0 (by omega) a)
      exact ⟨1, (updI (σ 121) e g), (updI (σ 122) g e), (σ 120), (σ 123), (σ 124), (σ 112 16), rfl, rfl, Or.inl ⟨rfl, r9.1, r9.2.1, updI_eq, r9.2.2⟩⟩
    · skip
      refine w_iload (pc' := 53) (by rfl) dX6_force_51 rfl ?_
      refine w_bipush (pc' := 55) (by decide) (by decide) dX6_force_53 rfl ?_
      refine w_icmp_lt (pc' := 58) (t := 60) dX6_force_55 rfl rfl (fun c_55 => ?_) (fun c_55 => ?_)
      · skip
        have hNg := (hng ()).resolve_left (by omega)
        have hne : σ 122 g ≠ e := fun k => hgM (by rw [k] at hNg; exact hNg.2.2)
        refine w_aload_n (pc' := 61) (i := 0) (by rfl) (by rfl) dX6_force_60 rfl ?_
        refine w_getS (pc' := 64) (q := 121) fg_X6_37 kd_112 sf_X6_12 gr_112_12 dX6_force_61 rfl ?_
        refine w_iload (pc' := 66) (by rfl) dX6_force_64 rfl ?_
        refine w_iconst (pc' := 67) (by decide) dX6_force_66 rfl ?_
        refine w_iast (pc' := 68) kd_121 (by omega) (by omega) dX6_force_67 rfl ?_
        refine Wp.heq (σ' := gUr (gUr (gUp (gUr (gUr (gUr σ 120 (σ 120)) 123 (σ 123)) 124 (σ 124)) 112 16 (σ 112 16)) 121 (updI (updI (σ 121) e g) ((σ 122) g) (-1))) 122 (updI (σ 122) g e)) ((gUp_cr (by decide)).trans (congrArg (fun z => gUr z 122 (updI (σ 122) g e)) gUp_row)) ?_
        refine w_iload_n (pc' := 69) (i := 3) (by rfl) (by rfl) dX6_force_68 rfl ?_
        refine w_if_lt (pc' := 72) (t := 88) dX6_force_69 rfl rfl (fun c_69 => ?_) (fun c_69 => ?_)
        · skip
          refine w_iconst (pc' := 89) (by decide) dX6_force_88 rfl ?_
          refine w_zreturn rfl (.inr rfl) dX6_force_89 ?_
          have h8 := hd ()
          have h9 := hng ()
          have r9 := les_done (M2 := (updI (updI (σ 121) e g) ((σ 122) g) (-1))) (N2 := (updI (σ 122) g e)) hP hno hN he hg hf hgM hu (Or.inr (by omega)) (fun i a b => by rw [tk_row (M := σ 121) (g := g) hne]) (fun z a b => les_n0 (by omega) a)
          exact ⟨1, (updI (updI (σ 121) e g) ((σ 122) g) (-1)), (updI (σ 122) g e), (σ 120), (σ 123), (σ 124), (σ 112 16), rfl, rfl, Or.inl ⟨rfl, r9.1, r9.2.1, (by rw [tk_row (M := σ 121) (g := g) hne]; exact if_pos rfl), r9.2.2⟩⟩
        · skip
          exfalso; omega
      · skip
        exfalso; have := hng (); omega
  · skip
    refine w_iload_n (pc' := 34) (i := 3) (by rfl) (by rfl) dX6_force_33 rfl ?_
    refine w_bipush (pc' := 36) (by decide) (by decide) dX6_force_34 rfl ?_
    refine w_icmp_ge (pc' := 39) (t := 46) dX6_force_36 rfl rfl (fun c_36 => ?_) (fun c_36 => ?_)
    · skip
      exfalso; have := hd (); omega
    · skip
      refine w_aload_n (pc' := 40) (i := 0) (by rfl) (by rfl) dX6_force_39 rfl ?_
      refine w_getS (pc' := 43) (q := 122) fg_X6_40 kd_112 sf_X6_13 gr_112_13 dX6_force_40 rfl ?_
      refine w_iload_n (pc' := 44) (i := 3) (by rfl) (by rfl) dX6_force_43 rfl ?_
      refine w_iconst (pc' := 45) (by decide) dX6_force_44 rfl ?_
      refine w_iast (pc' := 46) kd_122 (by have := hd (); omega) (by have := hd (); omega) dX6_force_45 rfl ?_
      refine Wp.heq (σ' := gUr (gUr (gUp (gUr (gUr (gUr σ 120 (σ 120)) 123 (σ 123)) 124 (σ 124)) 112 16 (σ 112 16)) 121 (updI (σ 121) e g)) 122 (updI (updI (σ 122) g e) ((σ 121) e) (-1))) gUp_row ?_
      refine w_iload (pc' := 48) (by rfl) dX6_force_46 rfl ?_
      refine w_if_lt (pc' := 51) (t := 58) dX6_force_48 rfl rfl (fun c_48 => ?_) (fun c_48 => ?_)
      · skip
        refine w_iconst (pc' := 59) (by decide) dX6_force_58 rfl ?_
        refine w_zreturn rfl (.inr rfl) dX6_force_59 ?_
        have h8 := hd ()
        have h9 := hng ()
        have r9 := les_done (M2 := (updI (σ 121) e g)) (N2 := (updI (updI (σ 122) g e) ((σ 121) e) (-1))) hP hno hN he hg hf hgM hu (Or.inl (by omega)) (fun i a b => les_m0 (by omega) a) (fun z a b => les_n1 hgM)
        exact ⟨1, (updI (σ 121) e g), (updI (updI (σ 122) g e) ((σ 121) e) (-1)), (σ 120), (σ 123), (σ 124), (σ 112 16), rfl, rfl, Or.inl ⟨rfl, r9.1, r9.2.1, updI_eq, r9.2.2⟩⟩
      · skip
        refine w_iload (pc' := 53) (by rfl) dX6_force_51 rfl ?_
        refine w_bipush (pc' := 55) (by decide) (by decide) dX6_force_53 rfl ?_
        refine w_icmp_lt (pc' := 58) (t := 60) dX6_force_55 rfl rfl (fun c_55 => ?_) (fun c_55 => ?_)
        · skip
          have hNg := (hng ()).resolve_left (by omega)
          have hne : σ 122 g ≠ e := fun k => hgM (by rw [k] at hNg; exact hNg.2.2)
          refine w_aload_n (pc' := 61) (i := 0) (by rfl) (by rfl) dX6_force_60 rfl ?_
          refine w_getS (pc' := 64) (q := 121) fg_X6_37 kd_112 sf_X6_12 gr_112_12 dX6_force_61 rfl ?_
          refine w_iload (pc' := 66) (by rfl) dX6_force_64 rfl ?_
          refine w_iconst (pc' := 67) (by decide) dX6_force_66 rfl ?_
          refine w_iast (pc' := 68) kd_121 (by omega) (by omega) dX6_force_67 rfl ?_
          refine Wp.heq (σ' := gUr (gUr (gUp (gUr (gUr (gUr σ 120 (σ 120)) 123 (σ 123)) 124 (σ 124)) 112 16 (σ 112 16)) 121 (updI (updI (σ 121) e g) ((σ 122) g) (-1))) 122 (updI (updI (σ 122) g e) ((σ 121) e) (-1))) ((gUp_cr (by decide)).trans (congrArg (fun z => gUr z 122 (updI (updI (σ 122) g e) ((σ 121) e) (-1))) gUp_row)) ?_
          refine w_iload_n (pc' := 69) (i := 3) (by rfl) (by rfl) dX6_force_68 rfl ?_
          refine w_if_lt (pc' := 72) (t := 88) dX6_force_69 rfl rfl (fun c_69 => ?_) (fun c_69 => ?_)
          · skip
            exfalso; omega
          · skip
            refine w_iload_n (pc' := 73) (i := 3) (by rfl) (by rfl) dX6_force_72 rfl ?_
            refine w_bipush (pc' := 75) (by decide) (by decide) dX6_force_73 rfl ?_
            refine w_icmp_ge (pc' := 78) (t := 88) dX6_force_75 rfl rfl (fun c_75 => ?_) (fun c_75 => ?_)
            · skip
              exfalso; have := hd (); omega
            · skip
              have hM1 : MT E 120 F (updI (updI (σ 121) e g) (σ 122 g) (-1)) := by rw [tk_row hne]; exact MT_take hP.1.1 hN he hg hf
              have hN1 : MN E 120 (updI (updI (σ 121) e g) (σ 122 g) (-1)) (updI (updI (σ 122) g e) (σ 121 e) (-1)) := by rw [tk_row hne]; exact MN_take hP.1.1 hN he hg hgM (fun z _ _ => les_n1 hgM)
              have hYN1 := FRE_N (e := e) hN1
              have hY1 : ∀ z, 0 ≤ z → z < 120 → (oBt (σ 119) z ↔ FRE e (updI (updI (σ 121) e g) (σ 122 g) (-1)) z) := by
                intro z z0 z1
                rw [tk_row hne, hO z z0 z1]
                exact (shut_lo (E := E) (tk_low hN hg hu) he.1 z).symm
              refine w_aload_n (pc' := 79) (i := 0) (by rfl) (by rfl) dX6_force_78 rfl ?_
              refine w_iload_n (pc' := 80) (i := 1) (by rfl) (by rfl) dX6_force_79 rfl ?_
              refine w_iconst (pc' := 81) (by decide) dX6_force_80 rfl ?_
              refine v_iadd (pc' := 82) (by omega) dX6_force_81 rfl ?_
              refine w_callV (pc' := 85) (d' := 2) (av := [gI (e + 1)]) mi_mX6_grow lk_X6_86 rfl ci_X6 kd_112 rfl (Nat.le_of_ble_eq_true rfl) (Nat.le_of_ble_eq_true rfl) dX6_force_82 rfl (kj_grow (σ := gUr (gUr (gUp (gUr (gUr (gUr σ 120 (σ 120)) 123 (σ 123)) 124 (σ 124)) 112 16 (σ 112 16)) 121 (updI (updI (σ 121) e g) ((σ 122) g) (-1))) 122 (updI (updI (σ 122) g e) ((σ 121) e) (-1))) (lo := e + 1) hE (by omega) hF hM1 hN1 hYN1 hY1 hsz (by omega)) (fun v_82 σ_82 q_82 => ?_)
              obtain ⟨b82, M82, N82, U82, C82, Q82, w82, rfl, rfl, hr82⟩ := q_82
              refine Wp.heq (σ' := gUr (gUr (gUp (gUr (gUr (gUr σ 120 U82) 123 C82) 124 Q82) 112 16 w82) 121 M82) 122 N82) ((congrArg (fun z => gUr z 122 N82) ((congrArg (fun z => gUr z 121 M82) ((congrArg (fun z => gUp z 112 16 w82) ((congrArg (fun z => gUr z 124 Q82) ((congrArg (fun z => gUr z 123 C82) ((gUr_cr (by decide)).trans (congrArg (fun z => gUr z 122 (updI (updI (σ 122) g e) ((σ 121) e) (-1))) ((gUr_cr (by decide)).trans (congrArg (fun z => gUr z 121 (updI (updI (σ 121) e g) ((σ 122) g) (-1))) ((gUr_cu (by decide)).trans (congrArg (fun z => gUp z 112 16 (σ 112 16)) ((gUr_cr (by decide)).trans (congrArg (fun z => gUr z 124 (σ 124)) ((gUr_cr (by decide)).trans (congrArg (fun z => gUr z 123 (σ 123)) gUr_same))))))))))).trans ((gUr_cr (by decide)).trans (congrArg (fun z => gUr z 122 (updI (updI (σ 122) g e) ((σ 121) e) (-1))) ((gUr_cr (by decide)).trans (congrArg (fun z => gUr z 121 (updI (updI (σ 121) e g) ((σ 122) g) (-1))) ((gUr_cu (by decide)).trans (congrArg (fun z => gUp z 112 16 (σ 112 16)) ((gUr_cr (by decide)).trans (congrArg (fun z => gUr z 124 (σ 124)) gUr_same)))))))))).trans ((gUr_cr (by decide)).trans (congrArg (fun z => gUr z 122 (updI (updI (σ 122) g e) ((σ 121) e) (-1))) ((gUr_cr (by decide)).trans (congrArg (fun z => gUr z 121 (updI (updI (σ 121) e g) ((σ 122) g) (-1))) ((gUr_cu (by decide)).trans (congrArg (fun z => gUp z 112 16 (σ 112 16)) gUr_same)))))))).trans ((gUp_cr (by decide)).trans (congrArg (fun z => gUr z 122 (updI (updI (σ 122) g e) ((σ 121) e) (-1))) ((gUp_cr (by decide)).trans (congrArg (fun z => gUr z 121 (updI (updI (σ 121) e g) ((σ 122) g) (-1))) gUp_same)))))).trans ((gUr_cr (by decide)).trans (congrArg (fun z => gUr z 122 (updI (updI (σ 122) g e) ((σ 121) e) (-1))) gUr_same)))).trans gUr_same) ?_
              show Wp _ _ _ _ _ _ [gI b82]
              refine w_if_eq (pc' := 88) (t := 90) dX6_force_85 rfl rfl (fun c_85 => ?_) (fun c_85 => ?_)
              · skip
                refine w_aload_n (pc' := 91) (i := 0) (by rfl) (by rfl) dX6_force_90 rfl ?_
                refine w_getS (pc' := 94) (q := 121) fg_X6_37 kd_112 sf_X6_12 gr_112_12 dX6_force_91 rfl ?_
                refine w_iload (pc' := 96) (by rfl) dX6_force_94 rfl ?_
                refine w_iload_n (pc' := 97) (i := 2) (by rfl) (by rfl) dX6_force_96 rfl ?_
                refine w_iast (pc' := 98) kd_121 (by omega) (by omega) dX6_force_97 rfl ?_
                refine Wp.heq (σ' := gUr (gUr (gUp (gUr (gUr (gUr σ 120 U82) 123 C82) 124 Q82) 112 16 w82) 121 (updI M82 ((σ 122) g) g)) 122 N82) ((gUp_cr (by decide)).trans (congrArg (fun z => gUr z 122 N82) gUp_row)) ?_
                refine w_aload_n (pc' := 99) (i := 0) (by rfl) (by rfl) dX6_force_98 rfl ?_
                refine w_getS (pc' := 102) (q := 122) fg_X6_40 kd_112 sf_X6_13 gr_112_13 dX6_force_99 rfl ?_
                refine w_iload_n (pc' := 103) (i := 2) (by rfl) (by rfl) dX6_force_102 rfl ?_
                refine w_iload (pc' := 105) (by rfl) dX6_force_103 rfl ?_
                refine w_iast (pc' := 106) kd_122 (by omega) (by omega) dX6_force_105 rfl ?_
                refine Wp.heq (σ' := gUr (gUr (gUp (gUr (gUr (gUr σ 120 U82) 123 C82) 124 Q82) 112 16 w82) 121 (updI M82 ((σ 122) g) g)) 122 (updI N82 g ((σ 122) g))) gUp_row ?_
                refine w_aload_n (pc' := 107) (i := 0) (by rfl) (by rfl) dX6_force_106 rfl ?_
                refine w_getS (pc' := 110) (q := 121) fg_X6_37 kd_112 sf_X6_12 gr_112_12 dX6_force_107 rfl ?_
                refine w_iload_n (pc' := 111) (i := 1) (by rfl) (by rfl) dX6_force_110 rfl ?_
                refine w_iload_n (pc' := 112) (i := 3) (by rfl) (by rfl) dX6_force_111 rfl ?_
                refine w_iast (pc' := 113) kd_121 (by omega) (by omega) dX6_force_112 rfl ?_
                refine Wp.heq (σ' := gUr (gUr (gUp (gUr (gUr (gUr σ 120 U82) 123 C82) 124 Q82) 112 16 w82) 121 (updI (updI M82 ((σ 122) g) g) e ((σ 121) e))) 122 (updI N82 g ((σ 122) g))) ((gUp_cr (by decide)).trans (congrArg (fun z => gUr z 122 (updI N82 g ((σ 122) g))) gUp_row)) ?_
                refine w_aload_n (pc' := 114) (i := 0) (by rfl) (by rfl) dX6_force_113 rfl ?_
                refine w_getS (pc' := 117) (q := 122) fg_X6_40 kd_112 sf_X6_13 gr_112_13 dX6_force_114 rfl ?_
                refine w_iload_n (pc' := 118) (i := 3) (by rfl) (by rfl) dX6_force_117 rfl ?_
                refine w_iload_n (pc' := 119) (i := 1) (by rfl) (by rfl) dX6_force_118 rfl ?_
                refine w_iast (pc' := 120) kd_122 (by have := hd (); omega) (by have := hd (); omega) dX6_force_119 rfl ?_
                refine Wp.heq (σ' := gUr (gUr (gUp (gUr (gUr (gUr σ 120 U82) 123 C82) 124 Q82) 112 16 w82) 121 (updI (updI M82 ((σ 122) g) g) e ((σ 121) e))) 122 (updI (updI N82 g ((σ 122) g)) ((σ 121) e) e)) gUp_row ?_
                refine w_iconst (pc' := 121) (by decide) dX6_force_120 rfl ?_
                refine w_zreturn rfl (.inl rfl) dX6_force_121 ?_
                obtain ⟨w1, w2, w3, R9, r1, r2, r3⟩ := hr82.resolve_left (by intro k; omega)
                have t := tk_row (M := σ 121) (g := g) hne
                have eM : (updI (updI M82 ((σ 122) g) g) e ((σ 121) e)) = σ 121 := by rw [show M82 = (updI (updI (σ 121) e g) (σ 122 g) (-1)) from w2]; exact les_backM hne hNg.2.2
                have eN : (updI (updI N82 g ((σ 122) g)) ((σ 121) e) e) = σ 122 := by rw [show N82 = (updI (updI (σ 122) g e) (σ 121 e) (-1)) from w3]; exact les_backN hgM rfl (hN.2 e he.1 he.2 (by omega))
                exact ⟨0, (updI (updI M82 ((σ 122) g) g) e ((σ 121) e)), (updI (updI N82 g ((σ 122) g)) ((σ 121) e) e), U82, C82, Q82, w82, rfl, rfl, Or.inr ⟨rfl, eM, eN, les_shut (N1 := (updI (updI (σ 122) g e) (σ 121 e) (-1))) (R := R9) hP hno hN he hg hf hgM hu (by omega) (by omega) (fun z _ _ => les_n1 hgM) (by rw [← t]; exact r1) r2 (by rw [← t]; exact r3)⟩⟩
              · skip
                refine w_iconst (pc' := 89) (by decide) dX6_force_88 rfl ?_
                refine w_zreturn rfl (.inr rfl) dX6_force_89 ?_
                obtain ⟨w1, x9, w2⟩ := hr82.resolve_right (fun k => by omega)
                have t := tk_row (M := σ 121) (g := g) hne
                have w3 : AUG E 120 F (FRE e (updI (updI (σ 121) e g) (σ 122 g) (-1))) (e + 1) (updI (updI (σ 121) e g) (σ 122 g) (-1)) x9 M82 N82 := w2
                have low9 := w3.2.2.1 e (by omega)
                rw [t] at w3
                have r9 := les_aug hP hno hN he hg hgM hu (by omega) (by omega) w3
                exact ⟨1, M82, N82, U82, C82, Q82, w82, rfl, rfl, Or.inl ⟨rfl, r9.1, r9.2.1, (by rw [low9, t]; exact if_pos rfl), r9.2.2⟩⟩
        · skip
          exfalso; have := hng (); omega
theorem rowsS {σ : gH} : σ = gUr (gUr (gUp (gUr (gUr (gUr (gUr σ 119 (σ 119)) 120 (σ 120)) 123 (σ 123)) 124 (σ 124)) 112 16 (σ 112 16)) 121 (σ 121)) 122 (σ 122) := by
  rw [show gUr σ 119 (σ 119) = σ from gUr_id, ← rowsG]
theorem op_next {M M2 : Int → Int} {e g : Int} (lo : ∀ i, 0 ≤ i → i < e → M2 i = M i) (h : M2 e = g) (he : 0 ≤ e) (z : Int) : (∀ i, 0 ≤ i → i < e + 1 → M2 i ≠ z) ↔ ((∀ i, 0 ≤ i → i < e → M i ≠ z) ∧ z ≠ g) := by
  refine ⟨fun w => ⟨fun i i0 i1 => by rw [← lo i i0 i1]; exact w i i0 (by omega), fun k => w e he (by omega) (h.trans k.symm)⟩, fun w i i0 i1 => ?_⟩
  by_cases d : i = e
  · rw [d, h]; exact fun k => w.2 k.symm
  · rw [lo i i0 (by omega)]; exact w.1 i i0 (by omega)
set_option maxHeartbeats 4000000 in
theorem kj_settle {σ : gH} {E : Int} {F : Int → Int → Prop} (hE : 0 ≤ E ∧ E ≤ 100) (hsz : σ 112 8 = E) (hF : ∀ e g, 0 ≤ e → e < E → 0 ≤ g → g < 120 → (fBt (σ 118) e g ↔ F e g)) (e : Int) (he : 0 ≤ e ∧ e < E) (hP : PHS E 120 F e (σ 121)) (hN : MN E 120 (σ 121) (σ 122)) (hO0 : ∀ z, 0 ≤ z → z < 120 → (oBt (σ 119) z ↔ ∀ i, 0 ≤ i → i < e → σ 121 i ≠ z)) : Mt mX6_settle 4 [gR 112, gI e] σ (fun v σ' => v = gX 1 ∧ ∃ (B M2 N2 U C Q : Int → Int) (w : Int), σ' = gUr (gUr (gUp (gUr (gUr (gUr (gUr σ 119 B) 120 U) 123 C) 124 Q) 112 16 w) 121 M2) 122 N2 ∧ PHS E 120 F (e + 1) M2 ∧ MN E 120 M2 N2 ∧ ∀ z, 0 ≤ z → z < 120 → (oBt B z ↔ ∀ i, 0 ≤ i → i < e + 1 → M2 i ≠ z)) := by
  refine Mt.walk (ls := [gR 112, gI e, gX 1]) pn_X6 rfl (fun _ _ h => by cases h.1) (Nat.le_of_ble_eq_true rfl) rfl ?_
  refine w_iconst (pc' := 1) (by decide) dX6_settle_0 rfl ?_
  refine w_istore_n (pc' := 2) (i := 2) (ls' := [gR 112, gI e, gI 0]) (by rfl) (by decide) (by rfl) dX6_settle_1 rfl ?_
  have hl_2 : ∀ (mm : Nat) (g : Int) (B U C Q : Int → Int) (w : Int), (120 - g).toNat = mm → (0 ≤ g) → (g ≤ 120) → (NOG E 120 F e g (σ 121)) → (∀ z, 0 ≤ z → z < 120 → (oBt B z ↔ ∀ i, 0 ≤ i → i < e → σ 121 i ≠ z)) → Wp mX6_settle 4 (fun v σ' => v = gX 1 ∧ ∃ (B M2 N2 U C Q : Int → Int) (w : Int), σ' = gUr (gUr (gUp (gUr (gUr (gUr (gUr σ 119 B) 120 U) 123 C) 124 Q) 112 16 w) 121 M2) 122 N2 ∧ PHS E 120 F (e + 1) M2 ∧ MN E 120 M2 N2 ∧ ∀ z, 0 ≤ z → z < 120 → (oBt B z ↔ ∀ i, 0 ≤ i → i < e + 1 → M2 i ≠ z)) (gUr (gUr (gUp (gUr (gUr (gUr (gUr σ 119 B) 120 U) 123 C) 124 Q) 112 16 w) 121 (σ 121)) 122 (σ 122)) 2 [gR 112, gI e, gI g] [] := by
    intro m_2
    induction m_2 using Nat.strongRecOn with
    | _ m_2 ih_2 =>
      intro g B U C Q w hmeas_2 g0 g1 hno hO
      have hFg : ∀ _ : Unit, g < 120 → (fBt (σ 118) e g ↔ F e g) := fun _ h => hF e g he.1 he.2 g0 h
      refine w_iload_n (pc' := 3) (i := 2) (by rfl) (by rfl) dX6_settle_2 rfl ?_
      refine w_bipush (pc' := 5) (by decide) (by decide) dX6_settle_3 rfl ?_
      refine w_icmp_ge (pc' := 8) (t := 87) dX6_settle_5 rfl rfl (fun c_5 => ?_) (fun c_5 => ?_)
      · skip
        refine w_return rfl dX6_settle_87 ?_
        have h9 := hno
        rw [show g = 120 by omega] at h9
        exact ⟨rfl, B, σ 121, σ 122, U, C, Q, w, rfl, hP.to hP.1 (fun _ _ _ => rfl) (OPT_no h9 he), hN, fun z a b => (hO z a b).trans ⟨fun k i i0 i1 => if c : i = e then (by rw [c]; exact h9 _ hP.1 (fun _ _ _ => rfl) z a b) else k i i0 (by omega), fun k i i0 i1 => k i i0 (by omega)⟩⟩
      · skip
        have hm := hfmd g0 (show g < 120 by omega)
        refine w_aload_n (pc' := 9) (i := 0) (by rfl) (by rfl) dX6_settle_8 rfl ?_
        refine w_iload_n (pc' := 10) (i := 1) (by rfl) (by rfl) dX6_settle_9 rfl ?_
        refine w_iload_n (pc' := 11) (i := 2) (by rfl) (by rfl) dX6_settle_10 rfl ?_
        refine w_aload_n (pc' := 12) (i := 0) (by rfl) (by rfl) dX6_settle_11 rfl ?_
        refine w_getS (pc' := 15) (q := 119) fg_X6_31 kd_112 sf_X6_10 gr_112_10 dX6_settle_12 rfl ?_
        refine v_callVE (pc' := 18) (st' := [gI (inI (fBt (σ 118) e g ∧ oBt B g))]) (d' := 0) (av := [gI e, gI g, gR 119]) mi_mX6_isChoice lk_X6_157 rfl ci_X6 kd_112 rfl (Nat.le_of_ble_eq_true rfl) (Nat.le_of_ble_eq_true rfl) dX6_settle_15 rfl rfl (k_isChoice119 (σ := gUr (gUr (gUp (gUr (gUr (gUr (gUr σ 119 B) 120 U) 123 C) 124 Q) 112 16 w) 121 (σ 121)) 122 (σ 122)) e g (by omega) (by omega)) ?_
        refine w_if_eq (pc' := 21) (t := 81) dX6_settle_18 rfl rfl (fun c_18 => ?_) (fun c_18 => ?_)
        · skip
          refine v_iinc (pc' := 84) (x := g) (ls' := [gR 112, gI e, gI (g + 1)]) (by omega) (by decide) (by rfl) (by rfl) dX6_settle_81 rfl ?_
          refine w_goto (pc' := 2) dX6_settle_84 rfl ?_
          
          exact ih_2 _ (by omega) (g + 1) B U C Q w rfl (by omega) (by omega) (by first | exact w4 | (by_cases hf : F e g; (obtain ⟨i, i0, i1, hi⟩ : ∃ i, 0 ≤ i ∧ i < e ∧ σ 121 i = g := Classical.byContradiction fun w => inI_0.mp c_18 ⟨(hFg () (by omega)).mpr hf, (hO g g0 (by omega)).mpr (fun i a b c => w ⟨i, a, b, c⟩)⟩; exact hno.used he g0 i0 i1 hi); exact hno.miss he g0 hf)) (by first | exact hO | (intro z a b; rw [oBt_set g0 (by omega) a b, hO6 z a b]; refine ⟨fun k => k.elim (fun k => k.1) (fun k => by rw [k]; exact hu), fun k => ?_⟩; by_cases c : z = g; (exact Or.inr c); exact Or.inl ⟨k, c⟩))
        · skip
          have hch0 := inI_1 c_18
          have hch : F e g ∧ oBt B g := ⟨(hFg () (by omega)).mp hch0.1, hch0.2⟩
          have hu : ∀ i, 0 ≤ i → i < e → σ 121 i ≠ g := (hO g g0 (by omega)).mp hch.2
          have hO6 : ∀ z, 0 ≤ z → z < 120 → (oBt (updI B (w32 (Int.tdiv g 64)) (gB64 (fun a b => a &&& b) (B (w32 (Int.tdiv g 64))) (gB64 (fun a b => a ^^^ b) (gS64 (fun a b => a <<< b) 1 (w32 (Int.tmod g 64))) (-1)))) z ↔ (∀ i, 0 ≤ i → i < e → σ 121 i ≠ z) ∧ z ≠ g) := fun z a b => by rw [oBt_clr g0 (by omega) a b, hO z a b]
          refine w_aload_n (pc' := 22) (i := 0) (by rfl) (by rfl) dX6_settle_21 rfl ?_
          refine w_getS (pc' := 25) (q := 119) fg_X6_31 kd_112 sf_X6_10 gr_112_10 dX6_settle_22 rfl ?_
          refine w_iload_n (pc' := 26) (i := 2) (by rfl) (by rfl) dX6_settle_25 rfl ?_
          refine w_bipush (pc' := 28) (by decide) (by decide) dX6_settle_26 rfl ?_
          refine w_idiv (pc' := 29) (by omega) dX6_settle_28 rfl ?_
          refine w_dup2 (pc' := 30) dX6_settle_29 rfl ?_
          refine w_lald (pc' := 31) kd_119 (by omega) (by omega) dX6_settle_30 rfl ?_
          show Wp _ _ _ _ _ _ [gJ (B (w32 (g.tdiv 64))), gI (w32 (g.tdiv 64)), gR 119]
          refine w_lconst (n := 1) (pc' := 32) (by decide) (by decide) dX6_settle_31 rfl ?_
          refine w_iload_n (pc' := 33) (i := 2) (by rfl) (by rfl) dX6_settle_32 rfl ?_
          refine w_bipush (pc' := 35) (by decide) (by decide) dX6_settle_33 rfl ?_
          refine w_irem (pc' := 36) (by omega) dX6_settle_35 rfl ?_
          refine w_lshl (pc' := 37) dX6_settle_36 rfl ?_
          refine w_ldc2 (pc' := 40) (by decide) ct_X6_80 dX6_settle_37 rfl ?_
          refine w_lxor (pc' := 41) dX6_settle_40 rfl ?_
          refine w_land (pc' := 42) dX6_settle_41 rfl ?_
          refine w_last (pc' := 43) kd_119 (by omega) (by omega) dX6_settle_42 rfl ?_
          refine Wp.heq (σ' := gUr (gUr (gUp (gUr (gUr (gUr (gUr σ 119 (updI B (w32 (g.tdiv 64)) (gB64 (fun a b => a &&& b) (B (w32 (g.tdiv 64))) (gB64 (fun a b => a ^^^ b) (gS64 (fun a b => a <<< b) 1 (w32 (g.tmod 64))) (-1))))) 120 U) 123 C) 124 Q) 112 16 w) 121 (σ 121)) 122 (σ 122)) ((gUp_cr (by decide)).trans (congrArg (fun z => gUr z 122 (σ 122)) ((gUp_cr (by decide)).trans (congrArg (fun z => gUr z 121 (σ 121)) ((gUp_cu (by decide)).trans (congrArg (fun z => gUp z 112 16 w) ((gUp_cr (by decide)).trans (congrArg (fun z => gUr z 124 Q) ((gUp_cr (by decide)).trans (congrArg (fun z => gUr z 123 C) ((gUp_cr (by decide)).trans (congrArg (fun z => gUr z 120 U) gUp_row)))))))))))) ?_
          refine w_aload_n (pc' := 44) (i := 0) (by rfl) (by rfl) dX6_settle_43 rfl ?_
          refine w_getS (pc' := 47) (q := 121) fg_X6_37 kd_112 sf_X6_12 gr_112_12 dX6_settle_44 rfl ?_
          refine w_iload_n (pc' := 48) (i := 1) (by rfl) (by rfl) dX6_settle_47 rfl ?_
          refine w_iald (pc' := 49) kd_121 (by omega) (by omega) dX6_settle_48 rfl ?_
          show Wp _ _ _ _ _ _ [gI ((σ 121) e)]
          refine w_iload_n (pc' := 50) (i := 2) (by rfl) (by rfl) dX6_settle_49 rfl ?_
          refine w_icmp_eq (pc' := 53) (t := 62) dX6_settle_50 rfl rfl (fun c_50 => ?_) (fun c_50 => ?_)
          · skip
            refine w_return rfl dX6_settle_62 ?_
            exact ⟨rfl, (updI B (w32 (g.tdiv 64)) (gB64 (fun a b => a &&& b) (B (w32 (g.tdiv 64))) (gB64 (fun a b => a ^^^ b) (gS64 (fun a b => a <<< b) 1 (w32 (g.tmod 64))) (-1)))), (σ 121), (σ 122), U, C, Q, w, rfl, hP.to hP.1 (fun _ _ _ => rfl) (OPT_at hno g0 (fun _ _ _ => rfl) (by omega) he), hN, fun z a b => (hO6 z a b).trans (op_next (fun _ _ _ => rfl) (by omega) he.1 z).symm⟩
          · skip
            have hgM : σ 121 e ≠ g := by omega
            refine w_aload_n (pc' := 54) (i := 0) (by rfl) (by rfl) dX6_settle_53 rfl ?_
            refine w_iload_n (pc' := 55) (i := 1) (by rfl) (by rfl) dX6_settle_54 rfl ?_
            refine w_iload_n (pc' := 56) (i := 2) (by rfl) (by rfl) dX6_settle_55 rfl ?_
            refine w_callV (pc' := 59) (d' := 3) (av := [gI e, gI g]) mi_mX6_force lk_X6_161 rfl ci_X6 kd_112 rfl (Nat.le_of_ble_eq_true rfl) (Nat.le_of_ble_eq_true rfl) dX6_settle_56 rfl (kj_force (σ := gUr (gUr (gUp (gUr (gUr (gUr (gUr σ 119 (updI B (w32 (g.tdiv 64)) (gB64 (fun a b => a &&& b) (B (w32 (g.tdiv 64))) (gB64 (fun a b => a ^^^ b) (gS64 (fun a b => a <<< b) 1 (w32 (g.tmod 64))) (-1))))) 120 U) 123 C) 124 Q) 112 16 w) 121 (σ 121)) 122 (σ 122)) hE hsz hF e g he ⟨g0, by omega⟩ hP hN hno hch.1 (by exact hgM) (by exact hu) hO6) (fun v_56 σ_56 q_56 => ?_)
            obtain ⟨b56, M56, N56, U56, C56, Q56, w56, rfl, rfl, hr56⟩ := q_56
            refine Wp.heq (σ' := gUr (gUr (gUp (gUr (gUr (gUr (gUr σ 119 (updI B (w32 (g.tdiv 64)) (gB64 (fun a b => a &&& b) (B (w32 (g.tdiv 64))) (gB64 (fun a b => a ^^^ b) (gS64 (fun a b => a <<< b) 1 (w32 (g.tmod 64))) (-1))))) 120 U56) 123 C56) 124 Q56) 112 16 w56) 121 M56) 122 N56) ((congrArg (fun z => gUr z 122 N56) ((congrArg (fun z => gUr z 121 M56) ((congrArg (fun z => gUp z 112 16 w56) ((congrArg (fun z => gUr z 124 Q56) ((congrArg (fun z => gUr z 123 C56) ((gUr_cr (by decide)).trans (congrArg (fun z => gUr z 122 (σ 122)) ((gUr_cr (by decide)).trans (congrArg (fun z => gUr z 121 (σ 121)) ((gUr_cu (by decide)).trans (congrArg (fun z => gUp z 112 16 w) ((gUr_cr (by decide)).trans (congrArg (fun z => gUr z 124 Q) ((gUr_cr (by decide)).trans (congrArg (fun z => gUr z 123 C) gUr_same))))))))))).trans ((gUr_cr (by decide)).trans (congrArg (fun z => gUr z 122 (σ 122)) ((gUr_cr (by decide)).trans (congrArg (fun z => gUr z 121 (σ 121)) ((gUr_cu (by decide)).trans (congrArg (fun z => gUp z 112 16 w) ((gUr_cr (by decide)).trans (congrArg (fun z => gUr z 124 Q) gUr_same)))))))))).trans ((gUr_cr (by decide)).trans (congrArg (fun z => gUr z 122 (σ 122)) ((gUr_cr (by decide)).trans (congrArg (fun z => gUr z 121 (σ 121)) ((gUr_cu (by decide)).trans (congrArg (fun z => gUp z 112 16 w) gUr_same)))))))).trans ((gUp_cr (by decide)).trans (congrArg (fun z => gUr z 122 (σ 122)) ((gUp_cr (by decide)).trans (congrArg (fun z => gUr z 121 (σ 121)) gUp_same)))))).trans ((gUr_cr (by decide)).trans (congrArg (fun z => gUr z 122 (σ 122)) gUr_same)))).trans gUr_same) ?_
            show Wp _ _ _ _ _ _ [gI b56]
            refine w_if_eq (pc' := 62) (t := 63) dX6_settle_59 rfl rfl (fun c_59 => ?_) (fun c_59 => ?_)
            · skip
              refine w_aload_n (pc' := 64) (i := 0) (by rfl) (by rfl) dX6_settle_63 rfl ?_
              refine w_getS (pc' := 67) (q := 119) fg_X6_31 kd_112 sf_X6_10 gr_112_10 dX6_settle_64 rfl ?_
              refine w_iload_n (pc' := 68) (i := 2) (by rfl) (by rfl) dX6_settle_67 rfl ?_
              refine w_bipush (pc' := 70) (by decide) (by decide) dX6_settle_68 rfl ?_
              refine w_idiv (pc' := 71) (by omega) dX6_settle_70 rfl ?_
              refine w_dup2 (pc' := 72) dX6_settle_71 rfl ?_
              refine w_lald (pc' := 73) kd_119 (by omega) (by omega) dX6_settle_72 rfl ?_
              show Wp _ _ _ _ _ _ [gJ ((updI B (w32 (g.tdiv 64)) (gB64 (fun a b => a &&& b) (B (w32 (g.tdiv 64))) (gB64 (fun a b => a ^^^ b) (gS64 (fun a b => a <<< b) 1 (w32 (g.tmod 64))) (-1)))) (w32 (g.tdiv 64))), gI (w32 (g.tdiv 64)), gR 119]
              refine w_lconst (n := 1) (pc' := 74) (by decide) (by decide) dX6_settle_73 rfl ?_
              refine w_iload_n (pc' := 75) (i := 2) (by rfl) (by rfl) dX6_settle_74 rfl ?_
              refine w_bipush (pc' := 77) (by decide) (by decide) dX6_settle_75 rfl ?_
              refine w_irem (pc' := 78) (by omega) dX6_settle_77 rfl ?_
              refine w_lshl (pc' := 79) dX6_settle_78 rfl ?_
              refine w_lor (pc' := 80) dX6_settle_79 rfl ?_
              refine w_last (pc' := 81) kd_119 (by omega) (by omega) dX6_settle_80 rfl ?_
              refine Wp.heq (σ' := gUr (gUr (gUp (gUr (gUr (gUr (gUr σ 119 (updI (updI B (w32 (g.tdiv 64)) (gB64 (fun a b => a &&& b) (B (w32 (g.tdiv 64))) (gB64 (fun a b => a ^^^ b) (gS64 (fun a b => a <<< b) 1 (w32 (g.tmod 64))) (-1)))) (w32 (g.tdiv 64)) (gB64 (fun a b => a ||| b) ((updI B (w32 (g.tdiv 64)) (gB64 (fun a b => a &&& b) (B (w32 (g.tdiv 64))) (gB64 (fun a b => a ^^^ b) (gS64 (fun a b => a <<< b) 1 (w32 (g.tmod 64))) (-1)))) (w32 (g.tdiv 64))) (gS64 (fun a b => a <<< b) 1 (w32 (g.tmod 64)))))) 120 U56) 123 C56) 124 Q56) 112 16 w56) 121 M56) 122 N56) ((gUp_cr (by decide)).trans (congrArg (fun z => gUr z 122 N56) ((gUp_cr (by decide)).trans (congrArg (fun z => gUr z 121 M56) ((gUp_cu (by decide)).trans (congrArg (fun z => gUp z 112 16 w56) ((gUp_cr (by decide)).trans (congrArg (fun z => gUr z 124 Q56) ((gUp_cr (by decide)).trans (congrArg (fun z => gUr z 123 C56) ((gUp_cr (by decide)).trans (congrArg (fun z => gUr z 120 U56) gUp_row)))))))))))) ?_
              refine v_iinc (pc' := 84) (x := g) (ls' := [gR 112, gI e, gI (g + 1)]) (by omega) (by decide) (by rfl) (by rfl) dX6_settle_81 rfl ?_
              refine w_goto (pc' := 2) dX6_settle_84 rfl ?_
              obtain ⟨w1, w2, w3, w4⟩ := hr56.resolve_left (by intro k; omega)
              rw [show M56 = σ 121 from w2, show N56 = σ 122 from w3]
              exact ih_2 _ (by omega) (g + 1) (updI (updI B (w32 (g.tdiv 64)) (gB64 (fun a b => a &&& b) (B (w32 (g.tdiv 64))) (gB64 (fun a b => a ^^^ b) (gS64 (fun a b => a <<< b) 1 (w32 (g.tmod 64))) (-1)))) (w32 (g.tdiv 64)) (gB64 (fun a b => a ||| b) ((updI B (w32 (g.tdiv 64)) (gB64 (fun a b => a &&& b) (B (w32 (g.tdiv 64))) (gB64 (fun a b => a ^^^ b) (gS64 (fun a b => a <<< b) 1 (w32 (g.tmod 64))) (-1)))) (w32 (g.tdiv 64))) (gS64 (fun a b => a <<< b) 1 (w32 (g.tmod 64))))) U56 C56 Q56 w56 rfl (by omega) (by omega) (by first | exact w4 | (by_cases hf : F e g; (obtain ⟨i, i0, i1, hi⟩ : ∃ i, 0 ≤ i ∧ i < e ∧ σ 121 i = g := Classical.byContradiction fun w => inI_0.mp c_18 ⟨(hFg () (by omega)).mpr hf, (hO g g0 (by omega)).mpr (fun i a b c => w ⟨i, a, b, c⟩)⟩; exact hno.used he g0 i0 i1 hi); exact hno.miss he g0 hf)) (by first | exact hO | (intro z a b; rw [oBt_set g0 (by omega) a b, hO6 z a b]; refine ⟨fun k => k.elim (fun k => k.1) (fun k => by rw [k]; exact hu), fun k => ?_⟩; by_cases c : z = g; (exact Or.inr c); exact Or.inl ⟨k, c⟩))
            · skip
              refine w_return rfl dX6_settle_62 ?_
              obtain ⟨w1, w2, w3, w4, w5⟩ := hr56.resolve_right (fun k => by omega)
              exact ⟨rfl, (updI B (w32 (g.tdiv 64)) (gB64 (fun a b => a &&& b) (B (w32 (g.tdiv 64))) (gB64 (fun a b => a ^^^ b) (gS64 (fun a b => a <<< b) 1 (w32 (g.tmod 64))) (-1)))), M56, N56, U56, C56, Q56, w56, rfl, w2, w3, fun z a b => (hO6 z a b).trans (op_next (fun i i0 i1 => w5 i i0 i1) w4 he.1 z).symm⟩
  refine Wp.heq (σ' := gUr (gUr (gUp (gUr (gUr (gUr (gUr σ 119 (σ 119)) 120 (σ 120)) 123 (σ 123)) 124 (σ 124)) 112 16 (σ 112 16)) 121 (σ 121)) 122 (σ 122)) rowsS ?_
  exact hl_2 _ 0 (σ 119) (σ 120) (σ 123) (σ 124) (σ 112 16) rfl (by omega) (by omega) (by intro M a b z z0 z1; omega) (by exact hO0)
