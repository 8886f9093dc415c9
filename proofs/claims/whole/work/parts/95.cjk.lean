/-! joined: the class, join (gen/mod_cjk.py) -/
theorem szM_none {E : Int} {M : Int → Int} (h : ∀ i, 0 ≤ i → i < E → M i = -1) : szM E M = 0 := by
  unfold szM
  rw [sumI_congr (g := fun _ => 0) (fun e a b => inI_f (fun q => q (h e a (by omega))))]
  exact sumI_zero _
set_option maxHeartbeats 4000000 in
theorem kj_join {σ0 σ : gH} (hI : Inv σ0) (hq : QC σ0 σ) (t : Int) : Mt mX6_join 6 [gR 112, gI t] σ (fun v σ' => v = gI (szM (σ0 112 8) (LXM (σ0 112 8) (σ0 41 11) (fitP σ0 t))) ∧ QC σ0 σ' ∧ ∀ e, 0 ≤ e → e < σ0 112 8 → σ' 121 e = LXM (σ0 112 8) (σ0 41 11) (fitP σ0 t) e) := by
  refine Mt.walk (ls := [gR 112, gI t, gX 1, gX 1]) pn_X6 rfl (fun _ _ h => by cases h.1) (Nat.le_of_ble_eq_true rfl) rfl ?_
  have hz := hI.f.hz
  have hp60 := hI.f.hp
  have hen0 := hI.f.ent.2.1
  have hen := hI.f.ent.2.2.1
  refine w_aload_n (pc' := 1) (i := 0) (by rfl) (by rfl) dX6_join_0 rfl ?_
  refine w_getS (pc' := 4) (q := 118) fg_X6_28 kd_112 sf_X6_9 gr_112_9 dX6_join_1 rfl ?_
  refine w_lconst (n := 0) (pc' := 5) (by decide) (by decide) dX6_join_4 rfl ?_
  refine v_callSE (pc' := 8) (st' := []) (d' := 0) (av := [gR 118, gJ 0]) ms_mJ7_fill_d0a16 st_mJ7_fill_d0a16 lk_X6_75 rfl rfl (Nat.le_of_ble_eq_true rfl) (Nat.le_of_ble_eq_true rfl) dX6_join_5 rfl rfl (k_fillJ (x := 118) (n := 200) kd_118 (by decide) σ 0) ?_
  refine w_aload_n (pc' := 9) (i := 0) (by rfl) (by rfl) dX6_join_8 rfl ?_
  refine w_getS (pc' := 12) (q := 121) fg_X6_37 kd_112 sf_X6_12 gr_112_12 dX6_join_9 rfl ?_
  refine w_iconst (pc' := 13) (by decide) dX6_join_12 rfl ?_
  refine v_callSE (pc' := 16) (st' := []) (d' := 0) (av := [gR 121, gI (-1)]) ms_mJ7_fill_53178 st_mJ7_fill_53178 lk_X6_81 rfl rfl (Nat.le_of_ble_eq_true rfl) (Nat.le_of_ble_eq_true rfl) dX6_join_13 rfl rfl (k_fillI (x := 121) (n := 100) kd_121 (by decide) (gUr σ 118 (fillF (σ 118) 200 0)) (-1)) ?_
  refine w_aload_n (pc' := 17) (i := 0) (by rfl) (by rfl) dX6_join_16 rfl ?_
  refine w_getS (pc' := 20) (q := 122) fg_X6_40 kd_112 sf_X6_13 gr_112_13 dX6_join_17 rfl ?_
  refine w_iconst (pc' := 21) (by decide) dX6_join_20 rfl ?_
  refine v_callSE (pc' := 24) (st' := []) (d' := 0) (av := [gR 122, gI (-1)]) ms_mJ7_fill_53178 st_mJ7_fill_53178 lk_X6_81 rfl rfl (Nat.le_of_ble_eq_true rfl) (Nat.le_of_ble_eq_true rfl) dX6_join_21 rfl rfl (k_fillI (x := 122) (n := 120) kd_122 (by decide) (gUr (gUr σ 118 (fillF (σ 118) 200 0)) 121 (fillF (σ 121) 100 (-1))) (-1)) ?_
  refine w_aload_n (pc' := 25) (i := 0) (by rfl) (by rfl) dX6_join_24 rfl ?_
  refine w_getS (pc' := 28) (q := 119) fg_X6_31 kd_112 sf_X6_10 gr_112_10 dX6_join_25 rfl ?_
  refine w_ldc2 (pc' := 31) (by decide) ct_X6_84 dX6_join_28 rfl ?_
  refine v_callSE (pc' := 34) (st' := []) (d' := 0) (av := [gR 119, gJ (-1)]) ms_mJ7_fill_d0a16 st_mJ7_fill_d0a16 lk_X6_75 rfl rfl (Nat.le_of_ble_eq_true rfl) (Nat.le_of_ble_eq_true rfl) dX6_join_31 rfl rfl (k_fillJ (x := 119) (n := 2) kd_119 (by decide) (gUr (gUr (gUr σ 118 (fillF (σ 118) 200 0)) 121 (fillF (σ 121) 100 (-1))) 122 (fillF (σ 122) 120 (-1))) (-1)) ?_
  refine w_iconst (pc' := 35) (by decide) dX6_join_34 rfl ?_
  refine w_istore_n (pc' := 36) (i := 2) (ls' := [gR 112, gI t, gI 0, gX 1]) (by rfl) (by decide) (by rfl) dX6_join_35 rfl ?_
  have hl_36 : ∀ (mm : Nat) (e : Int) (σv : gH), ((σ0 112 8) - e).toNat = mm → (0 ≤ e) → (e ≤ (σ0 112 8)) → (QC σ0 σv) → (σv 121 = fillF (σ 121) 100 (-1)) → (σv 122 = fillF (σ 122) 120 (-1)) → (σv 119 = fillF (σ 119) 2 (-1)) → (∀ i z, 0 ≤ i → i < 100 → 0 ≤ z → z < 120 → (fBt (σv 118) i z ↔ i < e ∧ z < σ0 41 11 ∧ fitP σ0 t i z)) → Wp mX6_join 6 (fun v σ' => v = gI (szM (σ0 112 8) (LXM (σ0 112 8) (σ0 41 11) (fitP σ0 t))) ∧ QC σ0 σ' ∧ ∀ e, 0 ≤ e → e < σ0 112 8 → σ' 121 e = LXM (σ0 112 8) (σ0 41 11) (fitP σ0 t) e) σv 36 [gR 112, gI t, gI e, gX 1] [] := by
    intro m_36
    induction m_36 using Nat.strongRecOn with
    | _ m_36 ih_36 =>
      intro e σv hmeas_36 e0 e1 hqv k21 k22 k19 hFv
      refine w_iload_n (pc' := 37) (i := 2) (by rfl) (by rfl) dX6_join_36 rfl ?_
      refine w_aload_n (pc' := 38) (i := 0) (by rfl) (by rfl) dX6_join_37 rfl ?_
      refine v_getI (pc' := 41) (ji := 8) rfl fg_X6_61 kd_112 dX6_join_38 rfl ?_
      rw [(hqv).rd (k := 112) (i := 8) (.inr rfl)]
      refine w_icmp_ge (pc' := 44) (t := 56) dX6_join_41 rfl rfl (fun c_41 => ?_) (fun c_41 => ?_)
      · skip
        refine w_iconst (pc' := 57) (by decide) dX6_join_56 rfl ?_
        refine w_istore_n (pc' := 58) (i := 2) (ls' := [gR 112, gI t, gI 0, gX 1]) (by rfl) (by decide) (by rfl) dX6_join_57 rfl ?_
        have hE : 0 ≤ (σ0 112 8) ∧ (σ0 112 8) ≤ 100 := ⟨hen0, hen⟩
        have hs8 : σv 112 8 = (σ0 112 8) := hqv.rd (.inr rfl)
        have hF : ∀ e g, 0 ≤ e → e < (σ0 112 8) → 0 ≤ g → g < 120 → (fBt (σv 118) e g ↔ (fitQ σ0 t) e g) := fun i z a b c d => (hFv i z a (by omega) c d).trans ⟨fun k => k.2, fun k => ⟨by omega, k⟩⟩
        have hY : ∀ g, 0 ≤ g → g < 120 → (oBt (σv 119) g ↔ (fun _ : Int => True) g) := fun g a b => ⟨fun _ => trivial, fun _ => oBt_1 (fun i a b => by rw [k19]; exact fillF_in a b) a b⟩
        have hm1 : ∀ i, 0 ≤ i → i < (σ0 112 8) → σv 121 i = -1 := fun i a b => by rw [k21]; exact fillF_in a (by omega)
        have hn1 : ∀ z, 0 ≤ z → z < 120 → σv 122 z = -1 := fun z a b => by rw [k22]; exact fillF_in a b
        have hl_58 : ∀ (mm : Nat) (j : Int) (U C Q M N : Int → Int) (w : Int), (100 - j).toNat = mm → (0 ≤ j) → (j ≤ 100) → (MT (σ0 112 8) 120 (fitQ σ0 t) M) → (MN (σ0 112 8) 120 M N) → (szM (σ0 112 8) M = j) → Wp mX6_join 6 (fun v σ' => v = gI (szM (σ0 112 8) (LXM (σ0 112 8) (σ0 41 11) (fitP σ0 t))) ∧ QC σ0 σ' ∧ ∀ e, 0 ≤ e → e < σ0 112 8 → σ' 121 e = LXM (σ0 112 8) (σ0 41 11) (fitP σ0 t) e) (gUr (gUr (gUp (gUr (gUr (gUr σv 120 U) 123 C) 124 Q) 112 16 w) 121 M) 122 N) 58 [gR 112, gI t, gI j, gX 1] [] := by
          intro m_58
          induction m_58 using Nat.strongRecOn with
          | _ m_58 ih_58 =>
            intro j U C Q M N w hmeas_58 j0 j1 hM hN hj
            have hYN : ∀ g, 0 ≤ g → g < 120 → (fun _ : Int => True) g → N g = -1 ∨ 0 ≤ N g := fun g a b _ => (hN.1 g a b).imp id (fun q => q.1)
            refine w_iload_n (pc' := 59) (i := 2) (by rfl) (by rfl) dX6_join_58 rfl ?_
            refine w_bipush (pc' := 61) (by decide) (by decide) dX6_join_59 rfl ?_
            have hj_78 : ∀ (U9 C9 Q9 M9 N9 : Int → Int) (w9 : Int), MXM (σ0 112 8) 120 (fitQ σ0 t) M9 → MN (σ0 112 8) 120 M9 N9 → szM (σ0 112 8) M9 = j → Wp mX6_join 6 (fun v σ' => v = gI (szM (σ0 112 8) (LXM (σ0 112 8) (σ0 41 11) (fitP σ0 t))) ∧ QC σ0 σ' ∧ ∀ e, 0 ≤ e → e < σ0 112 8 → σ' 121 e = LXM (σ0 112 8) (σ0 41 11) (fitP σ0 t) e) (gUr (gUr (gUp (gUr (gUr (gUr σv 120 U9) 123 C9) 124 Q9) 112 16 w9) 121 M9) 122 N9) 78 [gR 112, gI t, gI j, gX 1] [] := by
              intro U9 C9 Q9 M9 N9 w9 hx9 hn9 hj9
              refine w_iconst (pc' := 79) (by decide) dX6_join_78 rfl ?_
              refine w_istore_n (pc' := 80) (i := 3) (ls' := [gR 112, gI t, gI j, gI 0]) (by rfl) (by decide) (by rfl) dX6_join_79 rfl ?_
              have hl_80 : ∀ (mm : Nat) (y : Int) (B8 U8 C8 Q8 M8 N8 : Int → Int) (w8 : Int), ((σ0 112 8) - y).toNat = mm → (0 ≤ y) → (y ≤ (σ0 112 8)) → (PHS (σ0 112 8) 120 (fitQ σ0 t) y M8) → (MN (σ0 112 8) 120 M8 N8) → (∀ z, 0 ≤ z → z < 120 → (oBt B8 z ↔ ∀ i, 0 ≤ i → i < y → M8 i ≠ z)) → (szM (σ0 112 8) M8 = j) → Wp mX6_join 6 (fun v σ' => v = gI (szM (σ0 112 8) (LXM (σ0 112 8) (σ0 41 11) (fitP σ0 t))) ∧ QC σ0 σ' ∧ ∀ e, 0 ≤ e → e < σ0 112 8 → σ' 121 e = LXM (σ0 112 8) (σ0 41 11) (fitP σ0 t) e) (gUr (gUr (gUp (gUr (gUr (gUr (gUr σv 119 B8) 120 U8) 123 C8) 124 Q8) 112 16 w8) 121 M8) 122 N8) 80 [gR 112, gI t, gI j, gI y] [] := by
                intro m_80
                induction m_80 using Nat.strongRecOn with
                | _ m_80 ih_80 =>
                  intro y B8 U8 C8 Q8 M8 N8 w8 hmeas_80 y0 y1 hPH hN8 hO8 hj8
                  refine w_iload_n (pc' := 81) (i := 3) (by rfl) (by rfl) dX6_join_80 rfl ?_
                  refine w_aload_n (pc' := 82) (i := 0) (by rfl) (by rfl) dX6_join_81 rfl ?_
                  refine v_getI (pc' := 85) (ji := 8) rfl fg_X6_61 kd_112 dX6_join_82 rfl ?_
                  show Wp _ _ _ _ _ _ [gI (σv 112 8), gI y]
                  rw [(hqv).rd (k := 112) (i := 8) (.inr rfl)]
                  refine w_icmp_ge (pc' := 88) (t := 99) dX6_join_85 rfl rfl (fun c_85 => ?_) (fun c_85 => ?_)
                  · skip
                    refine w_iload_n (pc' := 100) (i := 2) (by rfl) (by rfl) dX6_join_99 rfl ?_
                    refine v_ireturn rfl dX6_join_100 ?_
                    have h9 := hPH
                    rw [show y = (σ0 112 8) by omega] at h9
                    have i9 := LXM_eq (ISL_120 hz.2.1 h9)
                    exact ⟨congrArg gI (hj8.symm.trans i9.2), (QC.ur (k := 122) (f := N8) (QC.ur (k := 121) (f := M8) (QC.up (k := 112) (i := 16) (v := w8) (QC.ur (k := 124) (f := Q8) (QC.ur (k := 123) (f := C8) (QC.ur (k := 120) (f := U8) (QC.ur (k := 119) (f := B8) hqv (hm_nfC 119 (by decide)) (fun h => h)) (hm_nfC 120 (by decide)) (fun h => h)) (hm_nfC 123 (by decide)) (fun h => h)) (hm_nfC 124 (by decide)) (fun h => h)) (by decide) (fun h => h)) (hm_nfC 121 (by decide)) (fun h => h)) (hm_nfC 122 (by decide)) (fun h => h)), fun e a b => i9.1 e a b⟩
                  · skip
                    refine w_aload_n (pc' := 89) (i := 0) (by rfl) (by rfl) dX6_join_88 rfl ?_
                    refine w_iload_n (pc' := 90) (i := 3) (by rfl) (by rfl) dX6_join_89 rfl ?_
                    refine w_callV (pc' := 93) (d' := 5) (av := [gI y]) mi_mX6_settle lk_X6_93 rfl ci_X6 kd_112 rfl (Nat.le_of_ble_eq_true rfl) (Nat.le_of_ble_eq_true rfl) dX6_join_90 rfl (kj_settle (σ := gUr (gUr (gUp (gUr (gUr (gUr (gUr σv 119 B8) 120 U8) 123 C8) 124 Q8) 112 16 w8) 121 M8) 122 N8) hE hs8 hF y (by omega) hPH hN8 hO8) (fun v_90 σ_90 q_90 => ?_)
                    obtain ⟨rfl, B90, M90, N90, U90, C90, Q90, w90, rfl, hp90, hn90, ho90⟩ := q_90
                    refine Wp.heq (σ' := gUr (gUr (gUp (gUr (gUr (gUr (gUr σv 119 B90) 120 U90) 123 C90) 124 Q90) 112 16 w90) 121 M90) 122 N90) ((congrArg (fun z => gUr z 122 N90) ((congrArg (fun z => gUr z 121 M90) ((congrArg (fun z => gUp z 112 16 w90) ((congrArg (fun z => gUr z 124 Q90) ((congrArg (fun z => gUr z 123 C90) ((congrArg (fun z => gUr z 120 U90) ((gUr_cr (by decide)).trans (congrArg (fun z => gUr z 122 N8) ((gUr_cr (by decide)).trans (congrArg (fun z => gUr z 121 M8) ((gUr_cu (by decide)).trans (congrArg (fun z => gUp z 112 16 w8) ((gUr_cr (by decide)).trans (congrArg (fun z => gUr z 124 Q8) ((gUr_cr (by decide)).trans (congrArg (fun z => gUr z 123 C8) ((gUr_cr (by decide)).trans (congrArg (fun z => gUr z 120 U8) gUr_same))))))))))))).trans ((gUr_cr (by decide)).trans (congrArg (fun z => gUr z 122 N8) ((gUr_cr (by decide)).trans (congrArg (fun z => gUr z 121 M8) ((gUr_cu (by decide)).trans (congrArg (fun z => gUp z 112 16 w8) ((gUr_cr (by decide)).trans (congrArg (fun z => gUr z 124 Q8) ((gUr_cr (by decide)).trans (congrArg (fun z => gUr z 123 C8) gUr_same)))))))))))).trans ((gUr_cr (by decide)).trans (congrArg (fun z => gUr z 122 N8) ((gUr_cr (by decide)).trans (congrArg (fun z => gUr z 121 M8) ((gUr_cu (by decide)).trans (congrArg (fun z => gUp z 112 16 w8) ((gUr_cr (by decide)).trans (congrArg (fun z => gUr z 124 Q8) gUr_same)))))))))).trans ((gUr_cr (by decide)).trans (congrArg (fun z => gUr z 122 N8) ((gUr_cr (by decide)).trans (congrArg (fun z => gUr z 121 M8) ((gUr_cu (by decide)).trans (congrArg (fun z => gUp z 112 16 w8) gUr_same)))))))).trans ((gUp_cr (by decide)).trans (congrArg (fun z => gUr z 122 N8) ((gUp_cr (by decide)).trans (congrArg (fun z => gUr z 121 M8) gUp_same)))))).trans ((gUr_cr (by decide)).trans (congrArg (fun z => gUr z 122 N8) gUr_same)))).trans gUr_same) ?_
                    show Wp _ _ _ _ _ _ []
                    refine v_iinc (pc' := 96) (x := y) (ls' := [gR 112, gI t, gI j, gI (y + 1)]) (by omega) (by decide) (by rfl) (by rfl) dX6_join_93 rfl ?_
                    refine w_goto (pc' := 80) dX6_join_96 rfl ?_
                    exact ih_80 _ (by omega) (y + 1) B90 U90 C90 Q90 M90 N90 w90 rfl (by omega) (by omega) (by exact hp90) (by exact hn90) (by exact ho90) (by exact (MX_sz hp90.1 hPH.1).trans hj8)
              refine Wp.heq (σ' := gUr (gUr (gUp (gUr (gUr (gUr (gUr σv 119 (σv 119)) 120 U9) 123 C9) 124 Q9) 112 16 w9) 121 M9) 122 N9) (by rw [show gUr σv 119 (σv 119) = σv from gUr_id]) ?_
              exact hl_80 _ 0 (σv 119) U9 C9 Q9 M9 N9 w9 rfl (by omega) (by omega) (by exact ⟨hx9, fun i a b => by omega⟩) (by exact hn9) (by intro z a b; exact ⟨fun _ i p q => by omega, fun _ => (hY z a b).mpr trivial⟩) (by exact hj9)
            refine w_icmp_ge (pc' := 64) (t := 78) dX6_join_61 rfl rfl (fun c_61 => ?_) (fun c_61 => ?_)
            · skip
              have a9 := szM_in (M := M) hE.1
              exact hj_78 U C Q M N w ⟨hM, fun M' _ => by have := szM_in (M := M') hE.1; omega⟩ hN hj
            · skip
              refine w_aload_n (pc' := 65) (i := 0) (by rfl) (by rfl) dX6_join_64 rfl ?_
              refine w_iconst (pc' := 66) (by decide) dX6_join_65 rfl ?_
              refine w_callV (pc' := 69) (d' := 3) (av := [gI 0]) mi_mX6_grow lk_X6_90 rfl ci_X6 kd_112 rfl (Nat.le_of_ble_eq_true rfl) (Nat.le_of_ble_eq_true rfl) dX6_join_66 rfl (kj_grow (σ := gUr (gUr (gUp (gUr (gUr (gUr σv 120 U) 123 C) 124 Q) 112 16 w) 121 M) 122 N) (lo := 0) (Y := fun _ => True) hE (by omega) hF hM hN hYN hY hs8 (by omega)) (fun v_66 σ_66 q_66 => ?_)
              obtain ⟨b66, M66, N66, U66, C66, Q66, w66, rfl, rfl, hr66⟩ := q_66
              refine Wp.heq (σ' := gUr (gUr (gUp (gUr (gUr (gUr σv 120 U66) 123 C66) 124 Q66) 112 16 w66) 121 M66) 122 N66) ((congrArg (fun z => gUr z 122 N66) ((congrArg (fun z => gUr z 121 M66) ((congrArg (fun z => gUp z 112 16 w66) ((congrArg (fun z => gUr z 124 Q66) ((congrArg (fun z => gUr z 123 C66) ((gUr_cr (by decide)).trans (congrArg (fun z => gUr z 122 N) ((gUr_cr (by decide)).trans (congrArg (fun z => gUr z 121 M) ((gUr_cu (by decide)).trans (congrArg (fun z => gUp z 112 16 w) ((gUr_cr (by decide)).trans (congrArg (fun z => gUr z 124 Q) ((gUr_cr (by decide)).trans (congrArg (fun z => gUr z 123 C) gUr_same))))))))))).trans ((gUr_cr (by decide)).trans (congrArg (fun z => gUr z 122 N) ((gUr_cr (by decide)).trans (congrArg (fun z => gUr z 121 M) ((gUr_cu (by decide)).trans (congrArg (fun z => gUp z 112 16 w) ((gUr_cr (by decide)).trans (congrArg (fun z => gUr z 124 Q) gUr_same)))))))))).trans ((gUr_cr (by decide)).trans (congrArg (fun z => gUr z 122 N) ((gUr_cr (by decide)).trans (congrArg (fun z => gUr z 121 M) ((gUr_cu (by decide)).trans (congrArg (fun z => gUp z 112 16 w) gUr_same)))))))).trans ((gUp_cr (by decide)).trans (congrArg (fun z => gUr z 122 N) ((gUp_cr (by decide)).trans (congrArg (fun z => gUr z 121 M) gUp_same)))))).trans ((gUr_cr (by decide)).trans (congrArg (fun z => gUr z 122 N) gUr_same)))).trans gUr_same) ?_
              show Wp _ _ _ _ _ _ [gI b66]
              refine w_if_eq (pc' := 72) (t := 78) dX6_join_69 rfl rfl (fun c_69 => ?_) (fun c_69 => ?_)
              · skip
                obtain ⟨_, w1, w2, R9, r1, r2, r3⟩ := hr66.resolve_left (by intro k; omega)
                have w1 : M66 = M := w1
                have w2 : N66 = N := w2
                exact hj_78 U66 C66 Q66 M66 N66 w66 (by rw [w1]; exact konig0 hM hN r1 r2 r3) (by rw [w1, w2]; exact hN) (by rw [w1]; exact hj)
              · skip
                refine v_iinc (pc' := 75) (x := j) (ls' := [gR 112, gI t, gI (j + 1), gX 1]) (by omega) (by decide) (by rfl) (by rfl) dX6_join_72 rfl ?_
                refine w_goto (pc' := 58) dX6_join_75 rfl ?_
                obtain ⟨_, x9, m9⟩ := hr66.resolve_right (by intro k; omega)
                exact ih_58 _ (by omega) (j + 1) U66 C66 Q66 M66 N66 w66 rfl (by omega) (by omega) (by exact m9.1) (by exact m9.2.1) (by (rw [AUG.sz m9 (Int.le_refl 0)]; exact congrArg (· + 1) hj))
        refine Wp.heq (σ' := gUr (gUr (gUp (gUr (gUr (gUr σv 120 (σv 120)) 123 (σv 123)) 124 (σv 124)) 112 16 (σv 112 16)) 121 (σv 121)) 122 (σv 122)) (rowsG (σ := σv)) ?_
        exact hl_58 _ 0 (σv 120) (σv 123) (σv 124) (σv 121) (σv 122) (σv 112 16) rfl (by omega) (by omega) (by exact ⟨fun i a b => Or.inl (hm1 i a b), fun i j a b c d k n => absurd (hm1 i a b) n⟩) (by exact ⟨fun z a b => Or.inl (hn1 z a b), fun i a b n => absurd (hm1 i a b) n⟩) (by exact szM_none (fun i a b => hm1 i a b))
      · skip
        refine w_aload_n (pc' := 45) (i := 0) (by rfl) (by rfl) dX6_join_44 rfl ?_
        refine w_iload_n (pc' := 46) (i := 2) (by rfl) (by rfl) dX6_join_45 rfl ?_
        refine w_iload_n (pc' := 47) (i := 1) (by rfl) (by rfl) dX6_join_46 rfl ?_
        refine w_callV (pc' := 50) (d' := 4) (av := [gI e, gI t]) mi_mX6_findFits lk_X6_86 rfl ci_X6 kd_112 rfl (Nat.le_of_ble_eq_true rfl) (Nat.le_of_ble_eq_true rfl) dX6_join_47 rfl (kj_findFits hI hqv e t (by omega)) (fun v_47 σ47 q_47 => ?_)
        obtain ⟨rfl, hq_47, hk_47, hf_47⟩ := q_47
        show Wp _ _ _ _ _ _ []
        refine v_iinc (pc' := 53) (x := e) (ls' := [gR 112, gI t, gI (e + 1), gX 1]) (by omega) (by decide) (by rfl) (by rfl) dX6_join_50 rfl ?_
        refine w_goto (pc' := 36) dX6_join_53 rfl ?_
        have qb : QC σ0 (σ47) := hq_47
        exact ih_36 _ (by omega) (e + 1) σ47 rfl (by omega) (by omega) (by exact qb) (by first | exact k21 | exact (hk_47 121 (by decide) (by decide)).trans k21) (by first | exact k22 | exact (hk_47 122 (by decide) (by decide)).trans k22) (by first | exact k19 | exact (hk_47 119 (by decide) (by decide)).trans k19) (by intro i z a b z0 z1; first | (rw [hf_47 i z a b z0 z1, hFv i z a b z0 z1]; constructor; (rintro (k | k); exact ⟨by omega, k.2⟩; exact ⟨by omega, k.2.1, by rw [k.1]; exact k.2.2⟩); (rintro k; by_cases c : i = e; (right; rw [c] at k; exact ⟨c, k.2⟩); exact Or.inl ⟨by omega, k.2⟩)) | (rw [hFv i z a b z0 z1]; refine ⟨fun k => ⟨by omega, k.2⟩, fun k => ⟨?_, k.2⟩⟩; by_cases c : i = e; (exfalso; rw [c] at k; obtain ⟨k1, k2, k3⟩ := k; omega); omega))
  exact hl_36 _ 0 (gUr (gUr (gUr (gUr σ 118 (fillF (σ 118) 200 0)) 121 (fillF (σ 121) 100 (-1))) 122 (fillF (σ 122) 120 (-1))) 119 (fillF (σ 119) 2 (-1))) rfl (by omega) (by omega) (by exact (QC.ur (k := 119) (f := (fillF (σ 119) 2 (-1))) (QC.ur (k := 122) (f := (fillF (σ 122) 120 (-1))) (QC.ur (k := 121) (f := (fillF (σ 121) 100 (-1))) (QC.ur (k := 118) (f := (fillF (σ 118) 200 0)) hq (hm_nfC 118 (by decide)) (fun h => h)) (hm_nfC 121 (by decide)) (fun h => h)) (hm_nfC 122 (by decide)) (fun h => h)) (hm_nfC 119 (by decide)) (fun h => h))) (by rfl) (by rfl) (by rfl) (by intro i z a b z0 z1; exact ⟨fun k => absurd k (fBt_0 (fun i a b => fillF_in a b) a b z0 z1), fun k => by omega⟩)
