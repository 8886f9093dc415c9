/-! joined: the class settles entry by entry (gen/mod_cjf.py) -/
theorem rowsG {σ : gH} : σ = gUr (gUr (gUp (gUr (gUr (gUr σ 120 (σ 120)) 123 (σ 123)) 124 (σ 124)) 112 16 (σ 112 16)) 121 (σ 121)) 122 (σ 122) := by
  rw [← rowsR, show gUr σ 121 (σ 121) = σ from gUr_id, show gUr σ 122 (σ 122) = σ from gUr_id]
theorem shut_lo {E : Int} {M : Int → Int} {e g z : Int} (lo : ∀ i, 0 ≤ i → i < e → tkM M e g z i = M i) (he : 0 ≤ e) (y : Int) : (FRE e (tkM M e g z) y) ↔ ((∀ i, 0 ≤ i → i < e → M i ≠ y) ∧ y ≠ g) := by
  refine ⟨fun w => ⟨fun i i0 i1 => by rw [← lo i i0 i1]; exact w i i0 (by omega), fun k => w e he (Int.le_refl e) ((if_pos rfl).trans k.symm)⟩, fun w i i0 i1 => ?_⟩
  by_cases d : i = e
  · rw [d, show tkM M e g z e = g from if_pos rfl]; exact fun k => w.2 k.symm
  · rw [lo i i0 (by omega)]; exact w.1 i i0 (by omega)
set_option maxHeartbeats 4000000 in
theorem kj_force {σ : gH} {E : Int} {F : Int → Int → Prop} (hE : 0 ≤ E ∧ E ≤ 100) (hsz : σ 112 8 = E) (hF : ∀ e g, 0 ≤ e → e < E → 0 ≤ g → g < 120 → (fBt (σ 118) e g ↔ F e g)) (e g : Int) (he : 0 ≤ e ∧ e < E) (hg : 0 ≤ g ∧ g < 120) (hP : PHS E 120 F e (σ 121)) (hN : MN E 120 (σ 121) (σ 122)) (hno : NOG E 120 F e g (σ 121)) (hf : F e g) (hgM : σ 121 e ≠ g) (hu : ∀ i, 0 ≤ i → i < e → σ 121 i ≠ g) (hO : ∀ z, 0 ≤ z → z < 120 → (oBt (σ 119) z ↔ (∀ i, 0 ≤ i → i < e → σ 121 i ≠ z) ∧ z ≠ g)) : Mt mX6_force 4 [gR 112, gI e, gI g] σ (fun v σ' => ∃ (b : Int) (M2 N2 U C Q : Int → Int) (w : Int), v = gI b ∧ σ' = gUr (gUr (gUp (gUr (gUr (gUr σ 120 U) 123 C) 124 Q) 112 16 w) 121 M2) 122 N2 ∧ ((b = 1 ∧ PHS E 120 F (e + 1) M2 ∧ MN E 120 M2 N2 ∧ M2 e = g ∧ ∀ i, 0 ≤ i → i < e → M2 i = σ 121 i) ∨ (b = 0 ∧ M2 = σ 121 ∧ N2 = σ 122 ∧ NOG E 120 F e (g + 1) (σ 121)))) := by
  refine Mt.walk (ls := [gR 112, gI e, gI g, gX 1, gX 1]) pn_X6 rfl (fun _ _ h => by obtain ⟨_, _, _, _, _, _, _, h, _⟩ := h; cases h) (Nat.le_of_ble_eq_true rfl) rfl ?_
  have hd : ∀ _ : Unit, _ := fun _ => hP.1.1.1 e he.1 he.2
  have hng : ∀ _ : Unit, _ := fun _ => hN.1 g hg.1 hg.2
  refine Wp.heq (σ' := gUr (gUr (gUp (gUr (gUr (gUr σ 120 (σ 120)) 123 (σ 123)) 124 (σ 124)) 112 16 (σ 112 16)) 121 (σ 121)) 122 (σ 122)) rowsG ?_
  refine w_iload_n (pc' := 1) (i := 2) (by rfl) (by rfl) dX6_force_0 rfl ?_
  refine v_callSE (pc' := 4) (st' := [gI (gb (0 ≤ g ∧ g < 120))]) (d' := 0) (av := [gI g]) ms_mX6_isGift st_mX6_isGift lk_X6_138 rfl rfl (Nat.le_of_ble_eq_true rfl) (Nat.le_of_ble_eq_true rfl) dX6_force_1 rfl rfl (kj_isGift (gUr (gUr (gUp (gUr (gUr (gUr σ 120 (σ 120)) 123 (σ 123)) 124 (σ 124)) 112 16 (σ 112 16)) 121 (σ 121)) 122 (σ 122)) g) ?_
  refine v_if_neB (pc' := 7) (t := 9) dX6_force_4 rfl rfl (fun c_4 => ?_) (fun c_4 => ?_)
  · skip
    refine w_aload_n (pc' := 10) (i := 0) (by rfl) (by rfl) dX6_force_9 rfl ?_
    refine w_iload_n (pc' := 11) (i := 1) (by rfl) (by rfl) dX6_force_10 rfl ?_
    refine v_callVE (pc' := 14) (st' := [gI ((σ 121) e)]) (d' := 1) (av := [gI e]) mi_mX6_giftJoined lk_X6_150 rfl ci_X6 kd_112 rfl (Nat.le_of_ble_eq_true rfl) (Nat.le_of_ble_eq_true rfl) dX6_force_11 rfl rfl (kj_giftJoined (σ := gUr (gUr (gUp (gUr (gUr (gUr σ 120 (σ 120)) 123 (σ 123)) 124 (σ 124)) 112 16 (σ 112 16)) 121 (σ 121)) 122 (σ 122)) e (by omega) (show e < σ 112 8 from by omega)) ?_
    refine w_istore_n (pc' := 15) (i := 3) (ls' := [gR 112, gI e, gI g, gI ((σ 121) e), gX 1]) (by rfl) (by decide) (by rfl) dX6_force_14 rfl ?_
    refine w_aload_n (pc' := 16) (i := 0) (by rfl) (by rfl) dX6_force_15 rfl ?_
    refine w_getS (pc' := 19) (q := 122) fg_X6_40 kd_112 sf_X6_13 gr_112_13 dX6_force_16 rfl ?_
    refine w_iload_n (pc' := 20) (i := 2) (by rfl) (by rfl) dX6_force_19 rfl ?_
    refine w_iald (pc' := 21) kd_122 (by omega) (by omega) dX6_force_20 rfl ?_
    show Wp _ _ _ _ _ _ [gI ((σ 122) g)]
    refine w_istore (pc' := 23) (ls' := [gR 112, gI e, gI g, gI ((σ 121) e), gI ((σ 122) g)]) (by decide) (by rfl) dX6_force_21 rfl ?_
    refine w_aload_n (pc' := 24) (i := 0) (by rfl) (by rfl) dX6_force_23 rfl ?_
    refine w_iload_n (pc' := 25) (i := 1) (by rfl) (by rfl) dX6_force_24 rfl ?_
    refine w_iload_n (pc' := 26) (i := 2) (by rfl) (by rfl) dX6_force_25 rfl ?_
    refine w_callV (pc' := 29) (d' := 1) (av := [gI e, gI g]) mi_mX6_put lk_X6_166 rfl ci_X6 kd_112 rfl (Nat.le_of_ble_eq_true rfl) (Nat.le_of_ble_eq_true rfl) dX6_force_26 rfl (kj_put (σ := gUr (gUr (gUp (gUr (gUr (gUr σ 120 (σ 120)) 123 (σ 123)) 124 (σ 124)) 112 16 (σ 112 16)) 121 (σ 121)) 122 (σ 122)) e g (by omega) (show e < σ 112 8 from by omega) (by omega)) (fun v_26 σ_26 q_26 => ?_)
    obtain ⟨rfl, rfl⟩ := q_26
    refine Wp.heq (σ' := gUr (gUr (gUp (gUr (gUr (gUr σ 120 (σ 120)) 123 (σ 123)) 124 (σ 124)) 112 16 (σ 112 16)) 121 (updI (σ 121) e g)) 122 (updI (σ 122) g e)) ((congrArg (fun z => gUp z 122 g e) ((gUp_cr (by decide)).trans (congrArg (fun z => gUr z 122 (σ 122)) gUp_row))).trans gUp_row) ?_
    show Wp _ _ _ _ _ _ []
    refine w_iload_n (pc' := 30) (i := 3) (by rfl) (by rfl) dX6_force_29 rfl ?_
    refine v_callSE (pc' := 33) (st' := [gI (gb (0 ≤ ((σ 121) e) ∧ ((σ 121) e) < 120))]) (d' := 0) (av := [gI ((σ 121) e)]) ms_mX6_isGift st_mX6_isGift lk_X6_138 rfl rfl (Nat.le_of_ble_eq_true rfl) (Nat.le_of_ble_eq_true rfl) dX6_force_30 rfl rfl (kj_isGift (gUr (gUr (gUp (gUr (gUr (gUr σ 120 (σ 120)) 123 (σ 123)) 124 (σ 124)) 112 16 (σ 112 16)) 121 (updI (σ 121) e g)) 122 (updI (σ 122) g e)) ((σ 121) e)) ?_
    refine v_if_eqB (pc' := 36) (t := 43) dX6_force_33 rfl rfl (fun c_33 => ?_) (fun c_33 => ?_)
    · skip
      refine w_aload_n (pc' := 44) (i := 0) (by rfl) (by rfl) dX6_force_43 rfl ?_
      refine w_iload (pc' := 46) (by rfl) dX6_force_44 rfl ?_
      refine v_callVE (pc' := 49) (st' := [gI (gb ((0 ≤ ((σ 122) g) ∧ ((σ 122) g) < σ 112 8) ∧ ((σ 122) g) < 100))]) (d' := 0) (av := [gI ((σ 122) g)]) mi_mX6_has lk_X6_65 rfl ci_X6 kd_112 rfl (Nat.le_of_ble_eq_true rfl) (Nat.le_of_ble_eq_true rfl) dX6_force_46 rfl rfl (kj_has (gUr (gUr (gUp (gUr (gUr (gUr σ 120 (σ 120)) 123 (σ 123)) 124 (σ 124)) 112 16 (σ 112 16)) 121 (updI (σ 121) e g)) 122 (updI (σ 122) g e)) ((σ 122) g)) ?_
      refine v_if_neB (pc' := 52) (t := 54) dX6_force_49 rfl rfl (fun c_49 => ?_) (fun c_49 => ?_)
      · skip
        have hNg := (hng ()).resolve_left (by omega)
        have hne : σ 122 g ≠ e := fun k => hgM (by rw [k] at hNg; exact hNg.2.2)
        refine w_aload_n (pc' := 55) (i := 0) (by rfl) (by rfl) dX6_force_54 rfl ?_
        refine w_getS (pc' := 58) (q := 121) fg_X6_37 kd_112 sf_X6_12 gr_112_12 dX6_force_55 rfl ?_
        refine w_iload (pc' := 60) (by rfl) dX6_force_58 rfl ?_
        refine w_iconst (pc' := 61) (by decide) dX6_force_60 rfl ?_
        refine w_iast (pc' := 62) kd_121 (by omega) (by omega) dX6_force_61 rfl ?_
        refine Wp.heq (σ' := gUr (gUr (gUp (gUr (gUr (gUr σ 120 (σ 120)) 123 (σ 123)) 124 (σ 124)) 112 16 (σ 112 16)) 121 (updI (updI (σ 121) e g) ((σ 122) g) (-1))) 122 (updI (σ 122) g e)) ((gUp_cr (by decide)).trans (congrArg (fun z => gUr z 122 (updI (σ 122) g e)) gUp_row)) ?_
        refine w_iload_n (pc' := 63) (i := 3) (by rfl) (by rfl) dX6_force_62 rfl ?_
        refine v_callSE (pc' := 66) (st' := [gI (gb (0 ≤ ((σ 121) e) ∧ ((σ 121) e) < 120))]) (d' := 0) (av := [gI ((σ 121) e)]) ms_mX6_isGift st_mX6_isGift lk_X6_138 rfl rfl (Nat.le_of_ble_eq_true rfl) (Nat.le_of_ble_eq_true rfl) dX6_force_63 rfl rfl (kj_isGift (gUr (gUr (gUp (gUr (gUr (gUr σ 120 (σ 120)) 123 (σ 123)) 124 (σ 124)) 112 16 (σ 112 16)) 121 (updI (updI (σ 121) e g) ((σ 122) g) (-1))) 122 (updI (σ 122) g e)) ((σ 121) e)) ?_
        refine v_if_eqB (pc' := 69) (t := 79) dX6_force_66 rfl rfl (fun c_66 => ?_) (fun c_66 => ?_)
        · skip
          refine w_iconst (pc' := 80) (by decide) dX6_force_79 rfl ?_
          refine w_zreturn rfl (.inr rfl) dX6_force_80 ?_
          have h8 := hd ()
          have h9 := hng ()
          have r9 := les_done (M2 := (updI (updI (σ 121) e g) ((σ 122) g) (-1))) (N2 := (updI (σ 122) g e)) hP hno hN he hg hf hgM hu (Or.inr (by omega)) (fun i a b => by rw [tk_row (M := σ 121) (g := g) hne]) (fun z a b => les_n0 (by omega) a)
          exact ⟨1, (updI (updI (σ 121) e g) ((σ 122) g) (-1)), (updI (σ 122) g e), (σ 120), (σ 123), (σ 124), (σ 112 16), rfl, rfl, Or.inl ⟨rfl, r9.1, r9.2.1, (by rw [tk_row (M := σ 121) (g := g) hne]; exact if_pos rfl), r9.2.2⟩⟩
        · skip
          exfalso; omega
      · skip
        refine w_iconst (pc' := 53) (by decide) dX6_force_52 rfl ?_
        refine w_zreturn rfl (.inr rfl) dX6_force_53 ?_
        have h8 := hd ()
        have h9 := hng ()
        have r9 := les_done (M2 := (updI (σ 121) e g)) (N2 := (updI (σ 122) g e)) hP hno hN he hg hf hgM hu (Or.inl (by omega)) (fun i a b => les_m0 (by omega) a) (fun z a b => les_n0 (by omega) a)
        exact ⟨1, (updI (σ 121) e g), (updI (σ 122) g e), (σ 120), (σ 123), (σ 124), (σ 112 16), rfl, rfl, Or.inl ⟨rfl, r9.1, r9.2.1, updI_eq, r9.2.2⟩⟩
    · skip
      refine w_aload_n (pc' := 37) (i := 0) (by rfl) (by rfl) dX6_force_36 rfl ?_
      refine w_getS (pc' := 40) (q := 122) fg_X6_40 kd_112 sf_X6_13 gr_112_13 dX6_force_37 rfl ?_
      refine w_iload_n (pc' := 41) (i := 3) (by rfl) (by rfl) dX6_force_40 rfl ?_
      refine w_iconst (pc' := 42) (by decide) dX6_force_41 rfl ?_
      refine w_iast (pc' := 43) kd_122 (by omega) (by omega) dX6_force_42 rfl ?_
      refine Wp.heq (σ' := gUr (gUr (gUp (gUr (gUr (gUr σ 120 (σ 120)) 123 (σ 123)) 124 (σ 124)) 112 16 (σ 112 16)) 121 (updI (σ 121) e g)) 122 (updI (updI (σ 122) g e) ((σ 121) e) (-1))) gUp_row ?_
      refine w_aload_n (pc' := 44) (i := 0) (by rfl) (by rfl) dX6_force_43 rfl ?_
      refine w_iload (pc' := 46) (by rfl) dX6_force_44 rfl ?_
      refine v_callVE (pc' := 49) (st' := [gI (gb ((0 ≤ ((σ 122) g) ∧ ((σ 122) g) < σ 112 8) ∧ ((σ 122) g) < 100))]) (d' := 0) (av := [gI ((σ 122) g)]) mi_mX6_has lk_X6_65 rfl ci_X6 kd_112 rfl (Nat.le_of_ble_eq_true rfl) (Nat.le_of_ble_eq_true rfl) dX6_force_46 rfl rfl (kj_has (gUr (gUr (gUp (gUr (gUr (gUr σ 120 (σ 120)) 123 (σ 123)) 124 (σ 124)) 112 16 (σ 112 16)) 121 (updI (σ 121) e g)) 122 (updI (updI (σ 122) g e) ((σ 121) e) (-1))) ((σ 122) g)) ?_
      refine v_if_neB (pc' := 52) (t := 54) dX6_force_49 rfl rfl (fun c_49 => ?_) (fun c_49 => ?_)
      · skip
        have hNg := (hng ()).resolve_left (by omega)
        have hne : σ 122 g ≠ e := fun k => hgM (by rw [k] at hNg; exact hNg.2.2)
        refine w_aload_n (pc' := 55) (i := 0) (by rfl) (by rfl) dX6_force_54 rfl ?_
        refine w_getS (pc' := 58) (q := 121) fg_X6_37 kd_112 sf_X6_12 gr_112_12 dX6_force_55 rfl ?_
        refine w_iload (pc' := 60) (by rfl) dX6_force_58 rfl ?_
        refine w_iconst (pc' := 61) (by decide) dX6_force_60 rfl ?_
        refine w_iast (pc' := 62) kd_121 (by omega) (by omega) dX6_force_61 rfl ?_
        refine Wp.heq (σ' := gUr (gUr (gUp (gUr (gUr (gUr σ 120 (σ 120)) 123 (σ 123)) 124 (σ 124)) 112 16 (σ 112 16)) 121 (updI (updI (σ 121) e g) ((σ 122) g) (-1))) 122 (updI (updI (σ 122) g e) ((σ 121) e) (-1))) ((gUp_cr (by decide)).trans (congrArg (fun z => gUr z 122 (updI (updI (σ 122) g e) ((σ 121) e) (-1))) gUp_row)) ?_
        refine w_iload_n (pc' := 63) (i := 3) (by rfl) (by rfl) dX6_force_62 rfl ?_
        refine v_callSE (pc' := 66) (st' := [gI (gb (0 ≤ ((σ 121) e) ∧ ((σ 121) e) < 120))]) (d' := 0) (av := [gI ((σ 121) e)]) ms_mX6_isGift st_mX6_isGift lk_X6_138 rfl rfl (Nat.le_of_ble_eq_true rfl) (Nat.le_of_ble_eq_true rfl) dX6_force_63 rfl rfl (kj_isGift (gUr (gUr (gUp (gUr (gUr (gUr σ 120 (σ 120)) 123 (σ 123)) 124 (σ 124)) 112 16 (σ 112 16)) 121 (updI (updI (σ 121) e g) ((σ 122) g) (-1))) 122 (updI (updI (σ 122) g e) ((σ 121) e) (-1))) ((σ 121) e)) ?_
        refine v_if_eqB (pc' := 69) (t := 79) dX6_force_66 rfl rfl (fun c_66 => ?_) (fun c_66 => ?_)
        · skip
          exfalso; omega
        · skip
          have hM1 : MT E 120 F (updI (updI (σ 121) e g) (σ 122 g) (-1)) := by rw [tk_row hne]; exact MT_take hP.1.1 hN he hg hf
          have hN1 : MN E 120 (updI (updI (σ 121) e g) (σ 122 g) (-1)) (updI (updI (σ 122) g e) (σ 121 e) (-1)) := by rw [tk_row hne]; exact MN_take hP.1.1 hN he hg hgM (fun z _ _ => les_n1 hgM)
          have hYN1 := FRE_N (e := e) hN1
          have hY1 : ∀ z, 0 ≤ z → z < 120 → (oBt (σ 119) z ↔ FRE e (updI (updI (σ 121) e g) (σ 122 g) (-1)) z) := by
            intro z z0 z1
            rw [tk_row hne, hO z z0 z1]
            exact (shut_lo (E := E) (tk_low hN hg hu) he.1 z).symm
          refine w_aload_n (pc' := 70) (i := 0) (by rfl) (by rfl) dX6_force_69 rfl ?_
          refine w_iload_n (pc' := 71) (i := 1) (by rfl) (by rfl) dX6_force_70 rfl ?_
          refine w_iconst (pc' := 72) (by decide) dX6_force_71 rfl ?_
          refine v_iadd (pc' := 73) (by omega) dX6_force_72 rfl ?_
          refine w_callV (pc' := 76) (d' := 3) (av := [gI (e + 1)]) mi_mX6_grow lk_X6_90 rfl ci_X6 kd_112 rfl (Nat.le_of_ble_eq_true rfl) (Nat.le_of_ble_eq_true rfl) dX6_force_73 rfl (kj_grow (σ := gUr (gUr (gUp (gUr (gUr (gUr σ 120 (σ 120)) 123 (σ 123)) 124 (σ 124)) 112 16 (σ 112 16)) 121 (updI (updI (σ 121) e g) ((σ 122) g) (-1))) 122 (updI (updI (σ 122) g e) ((σ 121) e) (-1))) (lo := e + 1) hE (by omega) hF hM1 hN1 hYN1 hY1 hsz (by omega)) (fun v_73 σ_73 q_73 => ?_)
          obtain ⟨b73, M73, N73, U73, C73, Q73, w73, rfl, rfl, hr73⟩ := q_73
          refine Wp.heq (σ' := gUr (gUr (gUp (gUr (gUr (gUr σ 120 U73) 123 C73) 124 Q73) 112 16 w73) 121 M73) 122 N73) ((congrArg (fun z => gUr z 122 N73) ((congrArg (fun z => gUr z 121 M73) ((congrArg (fun z => gUp z 112 16 w73) ((congrArg (fun z => gUr z 124 Q73) ((congrArg (fun z => gUr z 123 C73) ((gUr_cr (by decide)).trans (congrArg (fun z => gUr z 122 (updI (updI (σ 122) g e) ((σ 121) e) (-1))) ((gUr_cr (by decide)).trans (congrArg (fun z => gUr z 121 (updI (updI (σ 121) e g) ((σ 122) g) (-1))) ((gUr_cu (by decide)).trans (congrArg (fun z => gUp z 112 16 (σ 112 16)) ((gUr_cr (by decide)).trans (congrArg (fun z => gUr z 124 (σ 124)) ((gUr_cr (by decide)).trans (congrArg (fun z => gUr z 123 (σ 123)) gUr_same))))))))))).trans ((gUr_cr (by decide)).trans (congrArg (fun z => gUr z 122 (updI (updI (σ 122) g e) ((σ 121) e) (-1))) ((gUr_cr (by decide)).trans (congrArg (fun z => gUr z 121 (updI (updI (σ 121) e g) ((σ 122) g) (-1))) ((gUr_cu (by decide)).trans (congrArg (fun z => gUp z 112 16 (σ 112 16)) ((gUr_cr (by decide)).trans (congrArg (fun z => gUr z 124 (σ 124)) gUr_same)))))))))).trans ((gUr_cr (by decide)).trans (congrArg (fun z => gUr z 122 (updI (updI (σ 122) g e) ((σ 121) e) (-1))) ((gUr_cr (by decide)).trans (congrArg (fun z => gUr z 121 (updI (updI (σ 121) e g) ((σ 122) g) (-1))) ((gUr_cu (by decide)).trans (congrArg (fun z => gUp z 112 16 (σ 112 16)) gUr_same)))))))).trans ((gUp_cr (by decide)).trans (congrArg (fun z => gUr z 122 (updI (updI (σ 122) g e) ((σ 121) e) (-1))) ((gUp_cr (by decide)).trans (congrArg (fun z => gUr z 121 (updI (updI (σ 121) e g) ((σ 122) g) (-1))) gUp_same)))))).trans ((gUr_cr (by decide)).trans (congrArg (fun z => gUr z 122 (updI (updI (σ 122) g e) ((σ 121) e) (-1))) gUr_same)))).trans gUr_same) ?_
          show Wp _ _ _ _ _ _ [gI b73]
          refine w_if_eq (pc' := 79) (t := 81) dX6_force_76 rfl rfl (fun c_76 => ?_) (fun c_76 => ?_)
          · skip
            refine w_aload_n (pc' := 82) (i := 0) (by rfl) (by rfl) dX6_force_81 rfl ?_
            refine w_iload (pc' := 84) (by rfl) dX6_force_82 rfl ?_
            refine w_iload_n (pc' := 85) (i := 2) (by rfl) (by rfl) dX6_force_84 rfl ?_
            refine w_callV (pc' := 88) (d' := 1) (av := [gI ((σ 122) g), gI g]) mi_mX6_put lk_X6_166 rfl ci_X6 kd_112 rfl (Nat.le_of_ble_eq_true rfl) (Nat.le_of_ble_eq_true rfl) dX6_force_85 rfl (kj_put (σ := gUr (gUr (gUp (gUr (gUr (gUr σ 120 U73) 123 C73) 124 Q73) 112 16 w73) 121 M73) 122 N73) ((σ 122) g) g (by omega) (show ((σ 122) g) < σ 112 8 from by omega) (by omega)) (fun v_85 σ_85 q_85 => ?_)
            obtain ⟨rfl, rfl⟩ := q_85
            refine Wp.heq (σ' := gUr (gUr (gUp (gUr (gUr (gUr σ 120 U73) 123 C73) 124 Q73) 112 16 w73) 121 (updI M73 ((σ 122) g) g)) 122 (updI N73 g ((σ 122) g))) ((congrArg (fun z => gUp z 122 g ((σ 122) g)) ((gUp_cr (by decide)).trans (congrArg (fun z => gUr z 122 N73) gUp_row))).trans gUp_row) ?_
            show Wp _ _ _ _ _ _ []
            refine w_aload_n (pc' := 89) (i := 0) (by rfl) (by rfl) dX6_force_88 rfl ?_
            refine w_iload_n (pc' := 90) (i := 1) (by rfl) (by rfl) dX6_force_89 rfl ?_
            refine w_iload_n (pc' := 91) (i := 3) (by rfl) (by rfl) dX6_force_90 rfl ?_
            refine w_callV (pc' := 94) (d' := 1) (av := [gI e, gI ((σ 121) e)]) mi_mX6_put lk_X6_166 rfl ci_X6 kd_112 rfl (Nat.le_of_ble_eq_true rfl) (Nat.le_of_ble_eq_true rfl) dX6_force_91 rfl (kj_put (σ := gUr (gUr (gUp (gUr (gUr (gUr σ 120 U73) 123 C73) 124 Q73) 112 16 w73) 121 (updI M73 ((σ 122) g) g)) 122 (updI N73 g ((σ 122) g))) e ((σ 121) e) (by omega) (show e < σ 112 8 from by omega) (by omega)) (fun v_91 σ_91 q_91 => ?_)
            obtain ⟨rfl, rfl⟩ := q_91
            refine Wp.heq (σ' := gUr (gUr (gUp (gUr (gUr (gUr σ 120 U73) 123 C73) 124 Q73) 112 16 w73) 121 (updI (updI M73 ((σ 122) g) g) e ((σ 121) e))) 122 (updI (updI N73 g ((σ 122) g)) ((σ 121) e) e)) ((congrArg (fun z => gUp z 122 ((σ 121) e) e) ((gUp_cr (by decide)).trans (congrArg (fun z => gUr z 122 (updI N73 g ((σ 122) g))) gUp_row))).trans gUp_row) ?_
            show Wp _ _ _ _ _ _ []
            refine w_iconst (pc' := 95) (by decide) dX6_force_94 rfl ?_
            refine w_zreturn rfl (.inl rfl) dX6_force_95 ?_
            obtain ⟨w1, w2, w3, R9, r1, r2, r3⟩ := hr73.resolve_left (by intro k; omega)
            have t := tk_row (M := σ 121) (g := g) hne
            have eM : (updI (updI M73 ((σ 122) g) g) e ((σ 121) e)) = σ 121 := by rw [show M73 = (updI (updI (σ 121) e g) (σ 122 g) (-1)) from w2]; exact les_backM hne hNg.2.2
            have eN : (updI (updI N73 g ((σ 122) g)) ((σ 121) e) e) = σ 122 := by rw [show N73 = (updI (updI (σ 122) g e) (σ 121 e) (-1)) from w3]; exact les_backN hgM rfl (hN.2 e he.1 he.2 (by omega))
            exact ⟨0, (updI (updI M73 ((σ 122) g) g) e ((σ 121) e)), (updI (updI N73 g ((σ 122) g)) ((σ 121) e) e), U73, C73, Q73, w73, rfl, rfl, Or.inr ⟨rfl, eM, eN, les_shut (N1 := (updI (updI (σ 122) g e) (σ 121 e) (-1))) (R := R9) hP hno hN he hg hf hgM hu (by omega) (by omega) (fun z _ _ => les_n1 hgM) (by rw [← t]; exact r1) r2 (by rw [← t]; exact r3)⟩⟩
          · skip
            refine w_iconst (pc' := 80) (by decide) dX6_force_79 rfl ?_
            refine w_zreturn rfl (.inr rfl) dX6_force_80 ?_
            obtain ⟨w1, x9, w2⟩ := hr73.resolve_right (fun k => by omega)
            have t := tk_row (M := σ 121) (g := g) hne
            have w3 : AUG E 120 F (FRE e (updI (updI (σ 121) e g) (σ 122 g) (-1))) (e + 1) (updI (updI (σ 121) e g) (σ 122 g) (-1)) x9 M73 N73 := w2
            have low9 := w3.2.2.1 e (by omega)
            rw [t] at w3
            have r9 := les_aug hP hno hN he hg hgM hu (by omega) (by omega) w3
            exact ⟨1, M73, N73, U73, C73, Q73, w73, rfl, rfl, Or.inl ⟨rfl, r9.1, r9.2.1, (by rw [low9, t]; exact if_pos rfl), r9.2.2⟩⟩
      · skip
        refine w_iconst (pc' := 53) (by decide) dX6_force_52 rfl ?_
        refine w_zreturn rfl (.inr rfl) dX6_force_53 ?_
        have h8 := hd ()
        have h9 := hng ()
        have r9 := les_done (M2 := (updI (σ 121) e g)) (N2 := (updI (updI (σ 122) g e) ((σ 121) e) (-1))) hP hno hN he hg hf hgM hu (Or.inl (by omega)) (fun i a b => les_m0 (by omega) a) (fun z a b => les_n1 hgM)
        exact ⟨1, (updI (σ 121) e g), (updI (updI (σ 122) g e) ((σ 121) e) (-1)), (σ 120), (σ 123), (σ 124), (σ 112 16), rfl, rfl, Or.inl ⟨rfl, r9.1, r9.2.1, updI_eq, r9.2.2⟩⟩
  · skip
    refine w_iconst (pc' := 8) (by decide) dX6_force_7 rfl ?_
    refine w_zreturn rfl (.inl rfl) dX6_force_8 ?_
    exfalso; omega
theorem rowsS {σ : gH} : σ = gUr (gUr (gUp (gUr (gUr (gUr (gUr σ 119 (σ 119)) 120 (σ 120)) 123 (σ 123)) 124 (σ 124)) 112 16 (σ 112 16)) 121 (σ 121)) 122 (σ 122) := by
  rw [show gUr σ 119 (σ 119) = σ from gUr_id, ← rowsG]
theorem op_next {M M2 : Int → Int} {e g : Int} (lo : ∀ i, 0 ≤ i → i < e → M2 i = M i) (h : M2 e = g) (he : 0 ≤ e) (z : Int) : (∀ i, 0 ≤ i → i < e + 1 → M2 i ≠ z) ↔ ((∀ i, 0 ≤ i → i < e → M i ≠ z) ∧ z ≠ g) := by
  refine ⟨fun w => ⟨fun i i0 i1 => by rw [← lo i i0 i1]; exact w i i0 (by omega), fun k => w e he (by omega) (h.trans k.symm)⟩, fun w i i0 i1 => ?_⟩
  by_cases d : i = e
  · rw [d, h]; exact fun k => w.2 k.symm
  · rw [lo i i0 (by omega)]; exact w.1 i i0 (by omega)
set_option maxHeartbeats 4000000 in
theorem kj_settle {σ : gH} {E : Int} {F : Int → Int → Prop} (hE : 0 ≤ E ∧ E ≤ 100) (hsz : σ 112 8 = E) (hF : ∀ e g, 0 ≤ e → e < E → 0 ≤ g → g < 120 → (fBt (σ 118) e g ↔ F e g)) (e : Int) (he : 0 ≤ e ∧ e < E) (hP : PHS E 120 F e (σ 121)) (hN : MN E 120 (σ 121) (σ 122)) (hO0 : ∀ z, 0 ≤ z → z < 120 → (oBt (σ 119) z ↔ ∀ i, 0 ≤ i → i < e → σ 121 i ≠ z)) : Mt mX6_settle 5 [gR 112, gI e] σ (fun v σ' => v = gX 1 ∧ ∃ (B M2 N2 U C Q : Int → Int) (w : Int), σ' = gUr (gUr (gUp (gUr (gUr (gUr (gUr σ 119 B) 120 U) 123 C) 124 Q) 112 16 w) 121 M2) 122 N2 ∧ PHS E 120 F (e + 1) M2 ∧ MN E 120 M2 N2 ∧ ∀ z, 0 ≤ z → z < 120 → (oBt B z ↔ ∀ i, 0 ≤ i → i < e + 1 → M2 i ≠ z)) := by
  refine Mt.walk (ls := [gR 112, gI e, gX 1]) pn_X6 rfl (fun _ _ h => by cases h.1) (Nat.le_of_ble_eq_true rfl) rfl ?_
  refine w_iconst (pc' := 1) (by decide) dX6_settle_0 rfl ?_
  refine w_istore_n (pc' := 2) (i := 2) (ls' := [gR 112, gI e, gI 0]) (by rfl) (by decide) (by rfl) dX6_settle_1 rfl ?_
  have hl_2 : ∀ (mm : Nat) (g : Int) (B U C Q : Int → Int) (w : Int), (120 - g).toNat = mm → (0 ≤ g) → (g ≤ 120) → (NOG E 120 F e g (σ 121)) → (∀ z, 0 ≤ z → z < 120 → (oBt B z ↔ ∀ i, 0 ≤ i → i < e → σ 121 i ≠ z)) → Wp mX6_settle 5 (fun v σ' => v = gX 1 ∧ ∃ (B M2 N2 U C Q : Int → Int) (w : Int), σ' = gUr (gUr (gUp (gUr (gUr (gUr (gUr σ 119 B) 120 U) 123 C) 124 Q) 112 16 w) 121 M2) 122 N2 ∧ PHS E 120 F (e + 1) M2 ∧ MN E 120 M2 N2 ∧ ∀ z, 0 ≤ z → z < 120 → (oBt B z ↔ ∀ i, 0 ≤ i → i < e + 1 → M2 i ≠ z)) (gUr (gUr (gUp (gUr (gUr (gUr (gUr σ 119 B) 120 U) 123 C) 124 Q) 112 16 w) 121 (σ 121)) 122 (σ 122)) 2 [gR 112, gI e, gI g] [] := by
    intro m_2
    induction m_2 using Nat.strongRecOn with
    | _ m_2 ih_2 =>
      intro g B U C Q w hmeas_2 g0 g1 hno hO
      have hFg : ∀ _ : Unit, g < 120 → (fBt (σ 118) e g ↔ F e g) := fun _ h => hF e g he.1 he.2 g0 h
      refine w_iload_n (pc' := 3) (i := 2) (by rfl) (by rfl) dX6_settle_2 rfl ?_
      refine w_bipush (pc' := 5) (by decide) (by decide) dX6_settle_3 rfl ?_
      refine w_icmp_ge (pc' := 8) (t := 86) dX6_settle_5 rfl rfl (fun c_5 => ?_) (fun c_5 => ?_)
      · skip
        refine w_return rfl dX6_settle_86 ?_
        have h9 := hno
        rw [show g = 120 by omega] at h9
        exact ⟨rfl, B, σ 121, σ 122, U, C, Q, w, rfl, hP.to hP.1 (fun _ _ _ => rfl) (OPT_no h9 he), hN, fun z a b => (hO z a b).trans ⟨fun k i i0 i1 => if c : i = e then (by rw [c]; exact h9 _ hP.1 (fun _ _ _ => rfl) z a b) else k i i0 (by omega), fun k i i0 i1 => k i i0 (by omega)⟩⟩
      · skip
        have hm := hfmd g0 (show g < 120 by omega)
        refine w_aload_n (pc' := 9) (i := 0) (by rfl) (by rfl) dX6_settle_8 rfl ?_
        refine w_iload_n (pc' := 10) (i := 1) (by rfl) (by rfl) dX6_settle_9 rfl ?_
        refine w_iload_n (pc' := 11) (i := 2) (by rfl) (by rfl) dX6_settle_10 rfl ?_
        refine w_aload_n (pc' := 12) (i := 0) (by rfl) (by rfl) dX6_settle_11 rfl ?_
        refine w_getS (pc' := 15) (q := 119) fg_X6_31 kd_112 sf_X6_10 gr_112_10 dX6_settle_12 rfl ?_
        refine v_callVE (pc' := 18) (st' := [gI (inI (fBt (σ 118) e g ∧ oBt B g))]) (d' := 1) (av := [gI e, gI g, gR 119]) mi_mX6_isChoice lk_X6_162 rfl ci_X6 kd_112 rfl (Nat.le_of_ble_eq_true rfl) (Nat.le_of_ble_eq_true rfl) dX6_settle_15 rfl rfl (k_isChoice119 (σ := gUr (gUr (gUp (gUr (gUr (gUr (gUr σ 119 B) 120 U) 123 C) 124 Q) 112 16 w) 121 (σ 121)) 122 (σ 122)) e g (by omega) (show e < σ 112 8 from by omega) (by omega)) ?_
        refine w_if_eq (pc' := 21) (t := 80) dX6_settle_18 rfl rfl (fun c_18 => ?_) (fun c_18 => ?_)
        · skip
          refine v_iinc (pc' := 83) (x := g) (ls' := [gR 112, gI e, gI (g + 1)]) (by omega) (by decide) (by rfl) (by rfl) dX6_settle_80 rfl ?_
          refine w_goto (pc' := 2) dX6_settle_83 rfl ?_
          
          exact ih_2 _ (by omega) (g + 1) B U C Q w rfl (by omega) (by omega) (by first | exact w4 | (by_cases hf : F e g; (obtain ⟨i, i0, i1, hi⟩ : ∃ i, 0 ≤ i ∧ i < e ∧ σ 121 i = g := Classical.byContradiction fun w => inI_0.mp c_18 ⟨(hFg () (by omega)).mpr hf, (hO g g0 (by omega)).mpr (fun i a b c => w ⟨i, a, b, c⟩)⟩; exact hno.used he g0 i0 i1 hi); exact hno.miss he g0 hf)) (by first | exact hO | (intro z a b; rw [oBt_set g0 (by omega) a b, hO6 z a b]; refine ⟨fun k => k.elim (fun k => k.1) (fun k => by rw [k]; exact hu), fun k => ?_⟩; by_cases c : z = g; (exact Or.inr c); exact Or.inl ⟨k, c⟩))
        · skip
          have hch0 := inI_1 c_18
          have hch : F e g ∧ oBt B g := ⟨(hFg () (by omega)).mp hch0.1, hch0.2⟩
          have hu : ∀ i, 0 ≤ i → i < e → σ 121 i ≠ g := (hO g g0 (by omega)).mp hch.2
          have hO6 : ∀ z, 0 ≤ z → z < 120 → (oBt (updI B (w32 (Int.tdiv g 64)) (gB64 (fun a b => a &&& b) (B (w32 (Int.tdiv g 64))) (gB64 (fun a b => a ^^^ b) (gS64 (fun a b => a <<< b) 1 (w32 (Int.tmod g 64))) (-1)))) z ↔ (∀ i, 0 ≤ i → i < e → σ 121 i ≠ z) ∧ z ≠ g) := fun z a b => by rw [oBt_clr g0 (by omega) a b, hO z a b]
          refine w_aload_n (pc' := 22) (i := 0) (by rfl) (by rfl) dX6_settle_21 rfl ?_
          refine w_getS (pc' := 25) (q := 119) fg_X6_31 kd_112 sf_X6_10 gr_112_10 dX6_settle_22 rfl ?_
          refine w_iload_n (pc' := 26) (i := 2) (by rfl) (by rfl) dX6_settle_25 rfl ?_
          refine w_bipush (pc' := 28) (by decide) (by decide) dX6_settle_26 rfl ?_
          refine w_idiv (pc' := 29) (by omega) dX6_settle_28 rfl ?_
          refine w_dup2 (pc' := 30) dX6_settle_29 rfl ?_
          refine w_lald (pc' := 31) kd_119 (by omega) (by omega) dX6_settle_30 rfl ?_
          show Wp _ _ _ _ _ _ [gJ (B (w32 (g.tdiv 64))), gI (w32 (g.tdiv 64)), gR 119]
          refine w_lconst (n := 1) (pc' := 32) (by decide) (by decide) dX6_settle_31 rfl ?_
          refine w_iload_n (pc' := 33) (i := 2) (by rfl) (by rfl) dX6_settle_32 rfl ?_
          refine w_bipush (pc' := 35) (by decide) (by decide) dX6_settle_33 rfl ?_
          refine w_irem (pc' := 36) (by omega) dX6_settle_35 rfl ?_
          refine w_lshl (pc' := 37) dX6_settle_36 rfl ?_
          refine w_ldc2 (pc' := 40) (by decide) ct_X6_84 dX6_settle_37 rfl ?_
          refine w_lxor (pc' := 41) dX6_settle_40 rfl ?_
          refine w_land (pc' := 42) dX6_settle_41 rfl ?_
          refine w_last (pc' := 43) kd_119 (by omega) (by omega) dX6_settle_42 rfl ?_
          refine Wp.heq (σ' := gUr (gUr (gUp (gUr (gUr (gUr (gUr σ 119 (updI B (w32 (g.tdiv 64)) (gB64 (fun a b => a &&& b) (B (w32 (g.tdiv 64))) (gB64 (fun a b => a ^^^ b) (gS64 (fun a b => a <<< b) 1 (w32 (g.tmod 64))) (-1))))) 120 U) 123 C) 124 Q) 112 16 w) 121 (σ 121)) 122 (σ 122)) ((gUp_cr (by decide)).trans (congrArg (fun z => gUr z 122 (σ 122)) ((gUp_cr (by decide)).trans (congrArg (fun z => gUr z 121 (σ 121)) ((gUp_cu (by decide)).trans (congrArg (fun z => gUp z 112 16 w) ((gUp_cr (by decide)).trans (congrArg (fun z => gUr z 124 Q) ((gUp_cr (by decide)).trans (congrArg (fun z => gUr z 123 C) ((gUp_cr (by decide)).trans (congrArg (fun z => gUr z 120 U) gUp_row)))))))))))) ?_
          refine w_aload_n (pc' := 44) (i := 0) (by rfl) (by rfl) dX6_settle_43 rfl ?_
          refine w_iload_n (pc' := 45) (i := 1) (by rfl) (by rfl) dX6_settle_44 rfl ?_
          refine v_callVE (pc' := 48) (st' := [gI ((σ 121) e)]) (d' := 1) (av := [gI e]) mi_mX6_giftJoined lk_X6_150 rfl ci_X6 kd_112 rfl (Nat.le_of_ble_eq_true rfl) (Nat.le_of_ble_eq_true rfl) dX6_settle_45 rfl rfl (kj_giftJoined (σ := gUr (gUr (gUp (gUr (gUr (gUr (gUr σ 119 (updI B (w32 (g.tdiv 64)) (gB64 (fun a b => a &&& b) (B (w32 (g.tdiv 64))) (gB64 (fun a b => a ^^^ b) (gS64 (fun a b => a <<< b) 1 (w32 (g.tmod 64))) (-1))))) 120 U) 123 C) 124 Q) 112 16 w) 121 (σ 121)) 122 (σ 122)) e (by omega) (show e < σ 112 8 from by omega)) ?_
          refine w_iload_n (pc' := 49) (i := 2) (by rfl) (by rfl) dX6_settle_48 rfl ?_
          refine w_icmp_eq (pc' := 52) (t := 61) dX6_settle_49 rfl rfl (fun c_49 => ?_) (fun c_49 => ?_)
          · skip
            refine w_return rfl dX6_settle_61 ?_
            exact ⟨rfl, (updI B (w32 (g.tdiv 64)) (gB64 (fun a b => a &&& b) (B (w32 (g.tdiv 64))) (gB64 (fun a b => a ^^^ b) (gS64 (fun a b => a <<< b) 1 (w32 (g.tmod 64))) (-1)))), (σ 121), (σ 122), U, C, Q, w, rfl, hP.to hP.1 (fun _ _ _ => rfl) (OPT_at hno g0 (fun _ _ _ => rfl) (by omega) he), hN, fun z a b => (hO6 z a b).trans (op_next (fun _ _ _ => rfl) (by omega) he.1 z).symm⟩
          · skip
            have hgM : σ 121 e ≠ g := by omega
            refine w_aload_n (pc' := 53) (i := 0) (by rfl) (by rfl) dX6_settle_52 rfl ?_
            refine w_iload_n (pc' := 54) (i := 1) (by rfl) (by rfl) dX6_settle_53 rfl ?_
            refine w_iload_n (pc' := 55) (i := 2) (by rfl) (by rfl) dX6_settle_54 rfl ?_
            refine w_callV (pc' := 58) (d' := 4) (av := [gI e, gI g]) mi_mX6_force lk_X6_169 rfl ci_X6 kd_112 rfl (Nat.le_of_ble_eq_true rfl) (Nat.le_of_ble_eq_true rfl) dX6_settle_55 rfl (kj_force (σ := gUr (gUr (gUp (gUr (gUr (gUr (gUr σ 119 (updI B (w32 (g.tdiv 64)) (gB64 (fun a b => a &&& b) (B (w32 (g.tdiv 64))) (gB64 (fun a b => a ^^^ b) (gS64 (fun a b => a <<< b) 1 (w32 (g.tmod 64))) (-1))))) 120 U) 123 C) 124 Q) 112 16 w) 121 (σ 121)) 122 (σ 122)) hE hsz hF e g he ⟨g0, by omega⟩ hP hN hno hch.1 (by exact hgM) (by exact hu) hO6) (fun v_55 σ_55 q_55 => ?_)
            obtain ⟨b55, M55, N55, U55, C55, Q55, w55, rfl, rfl, hr55⟩ := q_55
            refine Wp.heq (σ' := gUr (gUr (gUp (gUr (gUr (gUr (gUr σ 119 (updI B (w32 (g.tdiv 64)) (gB64 (fun a b => a &&& b) (B (w32 (g.tdiv 64))) (gB64 (fun a b => a ^^^ b) (gS64 (fun a b => a <<< b) 1 (w32 (g.tmod 64))) (-1))))) 120 U55) 123 C55) 124 Q55) 112 16 w55) 121 M55) 122 N55) ((congrArg (fun z => gUr z 122 N55) ((congrArg (fun z => gUr z 121 M55) ((congrArg (fun z => gUp z 112 16 w55) ((congrArg (fun z => gUr z 124 Q55) ((congrArg (fun z => gUr z 123 C55) ((gUr_cr (by decide)).trans (congrArg (fun z => gUr z 122 (σ 122)) ((gUr_cr (by decide)).trans (congrArg (fun z => gUr z 121 (σ 121)) ((gUr_cu (by decide)).trans (congrArg (fun z => gUp z 112 16 w) ((gUr_cr (by decide)).trans (congrArg (fun z => gUr z 124 Q) ((gUr_cr (by decide)).trans (congrArg (fun z => gUr z 123 C) gUr_same))))))))))).trans ((gUr_cr (by decide)).trans (congrArg (fun z => gUr z 122 (σ 122)) ((gUr_cr (by decide)).trans (congrArg (fun z => gUr z 121 (σ 121)) ((gUr_cu (by decide)).trans (congrArg (fun z => gUp z 112 16 w) ((gUr_cr (by decide)).trans (congrArg (fun z => gUr z 124 Q) gUr_same)))))))))).trans ((gUr_cr (by decide)).trans (congrArg (fun z => gUr z 122 (σ 122)) ((gUr_cr (by decide)).trans (congrArg (fun z => gUr z 121 (σ 121)) ((gUr_cu (by decide)).trans (congrArg (fun z => gUp z 112 16 w) gUr_same)))))))).trans ((gUp_cr (by decide)).trans (congrArg (fun z => gUr z 122 (σ 122)) ((gUp_cr (by decide)).trans (congrArg (fun z => gUr z 121 (σ 121)) gUp_same)))))).trans ((gUr_cr (by decide)).trans (congrArg (fun z => gUr z 122 (σ 122)) gUr_same)))).trans gUr_same) ?_
            show Wp _ _ _ _ _ _ [gI b55]
            refine w_if_eq (pc' := 61) (t := 62) dX6_settle_58 rfl rfl (fun c_58 => ?_) (fun c_58 => ?_)
            · skip
              refine w_aload_n (pc' := 63) (i := 0) (by rfl) (by rfl) dX6_settle_62 rfl ?_
              refine w_getS (pc' := 66) (q := 119) fg_X6_31 kd_112 sf_X6_10 gr_112_10 dX6_settle_63 rfl ?_
              refine w_iload_n (pc' := 67) (i := 2) (by rfl) (by rfl) dX6_settle_66 rfl ?_
              refine w_bipush (pc' := 69) (by decide) (by decide) dX6_settle_67 rfl ?_
              refine w_idiv (pc' := 70) (by omega) dX6_settle_69 rfl ?_
              refine w_dup2 (pc' := 71) dX6_settle_70 rfl ?_
              refine w_lald (pc' := 72) kd_119 (by omega) (by omega) dX6_settle_71 rfl ?_
              show Wp _ _ _ _ _ _ [gJ ((updI B (w32 (g.tdiv 64)) (gB64 (fun a b => a &&& b) (B (w32 (g.tdiv 64))) (gB64 (fun a b => a ^^^ b) (gS64 (fun a b => a <<< b) 1 (w32 (g.tmod 64))) (-1)))) (w32 (g.tdiv 64))), gI (w32 (g.tdiv 64)), gR 119]
              refine w_lconst (n := 1) (pc' := 73) (by decide) (by decide) dX6_settle_72 rfl ?_
              refine w_iload_n (pc' := 74) (i := 2) (by rfl) (by rfl) dX6_settle_73 rfl ?_
              refine w_bipush (pc' := 76) (by decide) (by decide) dX6_settle_74 rfl ?_
              refine w_irem (pc' := 77) (by omega) dX6_settle_76 rfl ?_
              refine w_lshl (pc' := 78) dX6_settle_77 rfl ?_
              refine w_lor (pc' := 79) dX6_settle_78 rfl ?_
              refine w_last (pc' := 80) kd_119 (by omega) (by omega) dX6_settle_79 rfl ?_
              refine Wp.heq (σ' := gUr (gUr (gUp (gUr (gUr (gUr (gUr σ 119 (updI (updI B (w32 (g.tdiv 64)) (gB64 (fun a b => a &&& b) (B (w32 (g.tdiv 64))) (gB64 (fun a b => a ^^^ b) (gS64 (fun a b => a <<< b) 1 (w32 (g.tmod 64))) (-1)))) (w32 (g.tdiv 64)) (gB64 (fun a b => a ||| b) ((updI B (w32 (g.tdiv 64)) (gB64 (fun a b => a &&& b) (B (w32 (g.tdiv 64))) (gB64 (fun a b => a ^^^ b) (gS64 (fun a b => a <<< b) 1 (w32 (g.tmod 64))) (-1)))) (w32 (g.tdiv 64))) (gS64 (fun a b => a <<< b) 1 (w32 (g.tmod 64)))))) 120 U55) 123 C55) 124 Q55) 112 16 w55) 121 M55) 122 N55) ((gUp_cr (by decide)).trans (congrArg (fun z => gUr z 122 N55) ((gUp_cr (by decide)).trans (congrArg (fun z => gUr z 121 M55) ((gUp_cu (by decide)).trans (congrArg (fun z => gUp z 112 16 w55) ((gUp_cr (by decide)).trans (congrArg (fun z => gUr z 124 Q55) ((gUp_cr (by decide)).trans (congrArg (fun z => gUr z 123 C55) ((gUp_cr (by decide)).trans (congrArg (fun z => gUr z 120 U55) gUp_row)))))))))))) ?_
              refine v_iinc (pc' := 83) (x := g) (ls' := [gR 112, gI e, gI (g + 1)]) (by omega) (by decide) (by rfl) (by rfl) dX6_settle_80 rfl ?_
              refine w_goto (pc' := 2) dX6_settle_83 rfl ?_
              obtain ⟨w1, w2, w3, w4⟩ := hr55.resolve_left (by intro k; omega)
              rw [show M55 = σ 121 from w2, show N55 = σ 122 from w3]
              exact ih_2 _ (by omega) (g + 1) (updI (updI B (w32 (g.tdiv 64)) (gB64 (fun a b => a &&& b) (B (w32 (g.tdiv 64))) (gB64 (fun a b => a ^^^ b) (gS64 (fun a b => a <<< b) 1 (w32 (g.tmod 64))) (-1)))) (w32 (g.tdiv 64)) (gB64 (fun a b => a ||| b) ((updI B (w32 (g.tdiv 64)) (gB64 (fun a b => a &&& b) (B (w32 (g.tdiv 64))) (gB64 (fun a b => a ^^^ b) (gS64 (fun a b => a <<< b) 1 (w32 (g.tmod 64))) (-1)))) (w32 (g.tdiv 64))) (gS64 (fun a b => a <<< b) 1 (w32 (g.tmod 64))))) U55 C55 Q55 w55 rfl (by omega) (by omega) (by first | exact w4 | (by_cases hf : F e g; (obtain ⟨i, i0, i1, hi⟩ : ∃ i, 0 ≤ i ∧ i < e ∧ σ 121 i = g := Classical.byContradiction fun w => inI_0.mp c_18 ⟨(hFg () (by omega)).mpr hf, (hO g g0 (by omega)).mpr (fun i a b c => w ⟨i, a, b, c⟩)⟩; exact hno.used he g0 i0 i1 hi); exact hno.miss he g0 hf)) (by first | exact hO | (intro z a b; rw [oBt_set g0 (by omega) a b, hO6 z a b]; refine ⟨fun k => k.elim (fun k => k.1) (fun k => by rw [k]; exact hu), fun k => ?_⟩; by_cases c : z = g; (exact Or.inr c); exact Or.inl ⟨k, c⟩))
            · skip
              refine w_return rfl dX6_settle_61 ?_
              obtain ⟨w1, w2, w3, w4, w5⟩ := hr55.resolve_right (fun k => by omega)
              exact ⟨rfl, (updI B (w32 (g.tdiv 64)) (gB64 (fun a b => a &&& b) (B (w32 (g.tdiv 64))) (gB64 (fun a b => a ^^^ b) (gS64 (fun a b => a <<< b) 1 (w32 (g.tmod 64))) (-1)))), M55, N55, U55, C55, Q55, w55, rfl, w2, w3, fun z a b => (hO6 z a b).trans (op_next (fun i i0 i1 => w5 i i0 i1) w4 he.1 z).symm⟩
  refine Wp.heq (σ' := gUr (gUr (gUp (gUr (gUr (gUr (gUr σ 119 (σ 119)) 120 (σ 120)) 123 (σ 123)) 124 (σ 124)) 112 16 (σ 112 16)) 121 (σ 121)) 122 (σ 122)) rowsS ?_
  exact hl_2 _ 0 (σ 119) (σ 120) (σ 123) (σ 124) (σ 112 16) rfl (by omega) (by omega) (by intro M a b z z0 z1; omega) (by exact hO0)
