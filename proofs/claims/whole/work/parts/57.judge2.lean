/-! what must be told by when: the reference (gen/mod_judge2.py) -/
set_option maxHeartbeats 4000000 in
theorem q_gather {σ0 σ : gH} (hI : Inv σ0) (hq : QM σ0 σ) {c : Nat} {l : Int} (hL : LWR σ0 c l) (p z d t : Int) (hP : 0 ≤ p ∧ p < σ0 3 2) (hZ : 0 ≤ z ∧ z < σ0 3 2) (hD : 0 ≤ d ∧ d ≤ 9999) : Mt mX12_gather 3 [gR 133, gI l, gI p, gI z, gI d, gI t] σ (fun v σ' => v = gX 1 ∧ ∃ σ1 D, QM σ0 σ1 ∧ KW σ σ1 ∧ WK (AR σ0 d t) (σ0 3 2) (σ1 168) (σ1 169) (σ1 170) ∧ (∀ y, 0 ≤ y → y < 60 → D y = DG σ0 p d t y) ∧ σ' = gUp (gUp (gUr σ1 172 D) 187 9 (SUMV σ0 p z d t l)) 187 10 (CNTV σ0 p z d t l)) := by
  refine Mt.walk (ls := [gR 133, gI l, gI p, gI z, gI d, gI t, gX 1, gX 1]) pn_X12 rfl (fun _ _ h => by cases h.1) (Nat.le_of_ble_eq_true rfl) rfl ?_
  have hz0 := hI.f.hz
  have hp60 := hI.f.hp
  have hnum := hL.num
  have hl6 : -1 ≤ l ∧ l < 6 := by
    rcases hL with h | h
    · omega
    · omega
  refine w_aload_n (pc' := 1) (i := 0) (by rfl) (by rfl) dX12_gather_0 rfl ?_
  refine w_iload (pc' := 3) (by rfl) dX12_gather_1 rfl ?_
  refine w_iload (pc' := 5) (by rfl) dX12_gather_3 rfl ?_
  refine w_callV (pc' := 8) (d' := 2) (av := [gI d, gI t]) mi_mX12_work lk_X12_349 rfl ci_X12 kd_133 rfl (Nat.le_of_ble_eq_true rfl) (Nat.le_of_ble_eq_true rfl) dX12_gather_5 rfl (q_work hI hq d t) (fun v_5 σ5 q_5 => ?_)
  obtain ⟨rfl, hq_5, hk_5, hw_5⟩ := q_5
  show Wp _ _ _ _ _ _ []
  refine w_aload_n (pc' := 9) (i := 0) (by rfl) (by rfl) dX12_gather_8 rfl ?_
  refine w_iload_n (pc' := 10) (i := 2) (by rfl) (by rfl) dX12_gather_9 rfl ?_
  refine w_iload (pc' := 12) (by rfl) dX12_gather_10 rfl ?_
  refine w_iload (pc' := 14) (by rfl) dX12_gather_12 rfl ?_
  refine w_callV (pc' := 17) (d' := 1) (av := [gI p, gI d, gI t]) mi_mX12_reach lk_X12_372 rfl ci_X12 kd_133 rfl (Nat.le_of_ble_eq_true rfl) (Nat.le_of_ble_eq_true rfl) dX12_gather_14 rfl (q_reach hI hq_5 p d t ⟨by omega, by omega⟩) (fun v_14 σ_14 q_14 => ?_)
  obtain ⟨rfl, f_14, rfl, hf_14⟩ := q_14
  refine Wp.heq (σ' := gUr σ5 172 f_14) rfl ?_
  show Wp _ _ _ _ _ _ []
  refine w_aload_n (pc' := 18) (i := 0) (by rfl) (by rfl) dX12_gather_17 rfl ?_
  refine w_getS (pc' := 21) (q := 187) fg_X12_181 kd_133 sf_X12_85 gr_133_85 dX12_gather_18 rfl ?_
  refine w_bipush (pc' := 23) (by decide) (by decide) dX12_gather_21 rfl ?_
  refine w_iconst (pc' := 24) (by decide) dX12_gather_23 rfl ?_
  refine w_iast (pc' := 25) kd_187 (by (first | omega | (have := hrow (by omega); omega))) (by (first | omega | (have := hrow (by omega); omega))) dX12_gather_24 rfl ?_
  refine w_aload_n (pc' := 26) (i := 0) (by rfl) (by rfl) dX12_gather_25 rfl ?_
  refine w_getS (pc' := 29) (q := 187) fg_X12_181 kd_133 sf_X12_85 gr_133_85 dX12_gather_26 rfl ?_
  refine w_bipush (pc' := 31) (by decide) (by decide) dX12_gather_29 rfl ?_
  refine w_iconst (pc' := 32) (by decide) dX12_gather_31 rfl ?_
  refine w_iast (pc' := 33) kd_187 (by (first | omega | (have := hrow (by omega); omega))) (by (first | omega | (have := hrow (by omega); omega))) dX12_gather_32 rfl ?_
  refine w_iconst (pc' := 34) (by decide) dX12_gather_33 rfl ?_
  refine w_istore (pc' := 36) (ls' := [gR 133, gI l, gI p, gI z, gI d, gI t, gI 0, gX 1]) (by decide) (by rfl) dX12_gather_34 rfl ?_
  have hl_36 : ∀ (mm : Nat) (j s n : Int), (σ0 41 11 - j).toNat = mm → (0 ≤ j) → (j ≤ σ0 41 11) → (s = wS σ0 p z d t (NU σ0 l 1) (NU σ0 l 0) (j).toNat) → (n = wC σ0 p z d t (NU σ0 l 1) (NU σ0 l 0) (j).toNat) → Wp mX12_gather 3 (fun v σ' => v = gX 1 ∧ ∃ σ1 D, QM σ0 σ1 ∧ KW σ σ1 ∧ WK (AR σ0 d t) (σ0 3 2) (σ1 168) (σ1 169) (σ1 170) ∧ (∀ y, 0 ≤ y → y < 60 → D y = DG σ0 p d t y) ∧ σ' = gUp (gUp (gUr σ1 172 D) 187 9 (SUMV σ0 p z d t l)) 187 10 (CNTV σ0 p z d t l)) (gUp (gUp (gUr σ5 172 f_14) 187 9 s) 187 10 n) 36 [gR 133, gI l, gI p, gI z, gI d, gI t, gI j, gX 1] [] := by
    intro m_36
    induction m_36 using Nat.strongRecOn with
    | _ m_36 ih_36 =>
      intro j s n hmeas_36 h0 h1 hs hn
      have hrow := fun h : j < σ0 41 11 => gift_row hI h0 h
      have hle := fun h : j < σ0 41 11 => LEAST_in hI (t := t) h0 h
      have hwi := wS_in hI (p := p) (z := z) (d := d) (t := t) (y := NU σ0 l 1) (k := NU σ0 l 0) h0 h1
      have hd1 : j < σ0 41 11 → f_14 (σ0 43 j) = DG σ0 p d t (σ0 43 j) := fun h => hf_14 _ (hrow h).2.1.1 (by have := hrow h; omega)
      have hh1 : j < σ0 41 11 → σ5 169 (σ0 42 j) = HD (AR σ0 d t) (σ0 42 j) := fun h => hw_5.2 _ (hrow h).1.1 (hrow h).1.2
      have hh2 : σ5 169 z = HD (AR σ0 d t) z := hw_5.2 z hZ.1 hZ.2
      refine w_iload (pc' := 38) (by rfl) dX12_gather_36 rfl ?_
      refine w_aload_n (pc' := 39) (i := 0) (by rfl) (by rfl) dX12_gather_38 rfl ?_
      refine v_getI (pc' := 42) (ji := 42) rfl fg_X12_313 kd_133 dX12_gather_39 rfl ?_
      show Wp _ _ _ _ _ _ [gI (σ5 133 42), gI j]
      rw [(hq_5).rd (k := 133) (i := 42) (.inr rfl)]
      rw [hI.f42]
      refine w_icmp_ge (pc' := 45) (t := 194) dX12_gather_42 rfl rfl (fun c_42 => ?_) (fun c_42 => ?_)
      · skip
        refine w_return rfl dX12_gather_194 ?_
        have e : j = σ0 41 11 := by omega
        rw [e] at hs hn
        exact ⟨rfl, σ5, f_14, hq_5, hk_5, hw_5, hf_14, by rw [hs, hn]; rfl⟩
      · skip
        refine w_aload_n (pc' := 46) (i := 0) (by rfl) (by rfl) dX12_gather_45 rfl ?_
        refine w_getS (pc' := 49) (q := 159) fg_X12_90 kd_133 sf_X12_33 gr_133_33 dX12_gather_46 rfl ?_
        refine w_iload (pc' := 51) (by rfl) dX12_gather_49 rfl ?_
        refine w_iald (pc' := 52) kd_159 (by (first | omega | (have := hrow (by omega); omega))) (by (first | omega | (have := hrow (by omega); omega))) dX12_gather_51 rfl ?_
        show Wp _ _ _ _ _ _ [gI (σ5 159 j)]
        rw [(hq_5).rd (k := 159) (i := j) (.inr rfl)]
        rw [hI.e159 (i := j) (by (first | omega | (have := hrow (by omega); omega))) (by (first | omega | (have := hrow (by omega); omega)))]
        refine w_iload (pc' := 54) (by rfl) dX12_gather_52 rfl ?_
        refine w_icmp_gt (pc' := 57) (t := 188) dX12_gather_54 rfl rfl (fun c_54 => ?_) (fun c_54 => ?_)
        · skip
          refine v_iinc (pc' := 191) (x := j) (ls' := [gR 133, gI l, gI p, gI z, gI d, gI t, gI (j + 1), gX 1]) (by (first | omega | (have := hrow (by omega); omega))) (by decide) (by rfl) (by rfl) dX12_gather_188 rfl ?_
          refine w_goto (pc' := 36) dX12_gather_191 rfl ?_
          exact ih_36 _ (by omega) (j + 1) s n rfl (by omega) (by omega) (by first | (rw [(wS_f h0 (show ¬ _ by omega)).1]; exact hs) | (rw [(wS_t h0 (show _ ∧ _ ∧ _ ∧ _ ∧ _ ∧ _ by omega)).1, hs])) (by first | (rw [(wS_f h0 (show ¬ _ by omega)).2]; exact hn) | (rw [(wS_t h0 (show _ ∧ _ ∧ _ ∧ _ ∧ _ ∧ _ by omega)).2, hn]))
        · skip
          refine w_aload_n (pc' := 58) (i := 0) (by rfl) (by rfl) dX12_gather_57 rfl ?_
          refine w_getS (pc' := 61) (q := 156) fg_X12_81 kd_133 sf_X12_30 gr_133_30 dX12_gather_58 rfl ?_
          refine w_iload (pc' := 63) (by rfl) dX12_gather_61 rfl ?_
          refine w_iald (pc' := 64) kd_156 (by (first | omega | (have := hrow (by omega); omega))) (by (first | omega | (have := hrow (by omega); omega))) dX12_gather_63 rfl ?_
          show Wp _ _ _ _ _ _ [gI (σ5 156 j)]
          rw [(hq_5).rd (k := 156) (i := j) (.inr rfl)]
          rw [hI.e156 (i := j) (by (first | omega | (have := hrow (by omega); omega))) (by (first | omega | (have := hrow (by omega); omega)))]
          refine w_iload (pc' := 66) (by rfl) dX12_gather_64 rfl ?_
          refine w_icmp_gt (pc' := 69) (t := 188) dX12_gather_66 rfl rfl (fun c_66 => ?_) (fun c_66 => ?_)
          · skip
            refine v_iinc (pc' := 191) (x := j) (ls' := [gR 133, gI l, gI p, gI z, gI d, gI t, gI (j + 1), gX 1]) (by (first | omega | (have := hrow (by omega); omega))) (by decide) (by rfl) (by rfl) dX12_gather_188 rfl ?_
            refine w_goto (pc' := 36) dX12_gather_191 rfl ?_
            exact ih_36 _ (by omega) (j + 1) s n rfl (by omega) (by omega) (by first | (rw [(wS_f h0 (show ¬ _ by omega)).1]; exact hs) | (rw [(wS_t h0 (show _ ∧ _ ∧ _ ∧ _ ∧ _ ∧ _ by omega)).1, hs])) (by first | (rw [(wS_f h0 (show ¬ _ by omega)).2]; exact hn) | (rw [(wS_t h0 (show _ ∧ _ ∧ _ ∧ _ ∧ _ ∧ _ by omega)).2, hn]))
          · skip
            refine w_aload_n (pc' := 70) (i := 0) (by rfl) (by rfl) dX12_gather_69 rfl ?_
            refine w_getS (pc' := 73) (q := 156) fg_X12_81 kd_133 sf_X12_30 gr_133_30 dX12_gather_70 rfl ?_
            refine w_iload (pc' := 75) (by rfl) dX12_gather_73 rfl ?_
            refine w_iald (pc' := 76) kd_156 (by (first | omega | (have := hrow (by omega); omega))) (by (first | omega | (have := hrow (by omega); omega))) dX12_gather_75 rfl ?_
            show Wp _ _ _ _ _ _ [gI (σ5 156 j)]
            rw [(hq_5).rd (k := 156) (i := j) (.inr rfl)]
            rw [hI.e156 (i := j) (by (first | omega | (have := hrow (by omega); omega))) (by (first | omega | (have := hrow (by omega); omega)))]
            refine w_iload (pc' := 78) (by rfl) dX12_gather_76 rfl ?_
            refine w_aload_n (pc' := 79) (i := 0) (by rfl) (by rfl) dX12_gather_78 rfl ?_
            refine w_iload_n (pc' := 80) (i := 1) (by rfl) (by rfl) dX12_gather_79 rfl ?_
            refine w_iconst (pc' := 81) (by decide) dX12_gather_80 rfl ?_
            refine v_callVE (pc' := 84) (st' := [gI (NU σ0 l 1), gI d, gI (σ0 45 j)]) (d' := 0) (av := [gI l, gI 1]) mi_mX12_numberOf lk_X12_503 rfl ci_X12 kd_133 rfl (Nat.le_of_ble_eq_true rfl) (Nat.le_of_ble_eq_true rfl) dX12_gather_81 rfl rfl (q_numberOf hI ((lm_up (k := 187) (i := 10) (v := n) (lm_nfC 187 (by decide) _)).trans ((lm_up (k := 187) (i := 9) (v := s) (lm_nfC 187 (by decide) _)).trans ((lm_ur (k := 172) (f := f_14) (lm_nfC 172 (by decide))).trans hq_5.1))) l 1 (by omega) (by omega)) ?_
            refine v_isub (pc' := 85) (by (first | omega | (have := hrow (by omega); omega))) dX12_gather_84 rfl ?_
            refine w_icmp_le (pc' := 88) (t := 188) dX12_gather_85 rfl rfl (fun c_85 => ?_) (fun c_85 => ?_)
            · skip
              refine v_iinc (pc' := 191) (x := j) (ls' := [gR 133, gI l, gI p, gI z, gI d, gI t, gI (j + 1), gX 1]) (by (first | omega | (have := hrow (by omega); omega))) (by decide) (by rfl) (by rfl) dX12_gather_188 rfl ?_
              refine w_goto (pc' := 36) dX12_gather_191 rfl ?_
              exact ih_36 _ (by omega) (j + 1) s n rfl (by omega) (by omega) (by first | (rw [(wS_f h0 (show ¬ _ by omega)).1]; exact hs) | (rw [(wS_t h0 (show _ ∧ _ ∧ _ ∧ _ ∧ _ ∧ _ by omega)).1, hs])) (by first | (rw [(wS_f h0 (show ¬ _ by omega)).2]; exact hn) | (rw [(wS_t h0 (show _ ∧ _ ∧ _ ∧ _ ∧ _ ∧ _ by omega)).2, hn]))
            · skip
              refine w_aload_n (pc' := 89) (i := 0) (by rfl) (by rfl) dX12_gather_88 rfl ?_
              refine w_getS (pc' := 92) (q := 172) fg_X12_136 kd_133 sf_X12_53 gr_133_53 dX12_gather_89 rfl ?_
              refine w_aload_n (pc' := 93) (i := 0) (by rfl) (by rfl) dX12_gather_92 rfl ?_
              refine w_getS (pc' := 96) (q := 154) fg_X12_75 kd_133 sf_X12_28 gr_133_28 dX12_gather_93 rfl ?_
              refine w_iload (pc' := 98) (by rfl) dX12_gather_96 rfl ?_
              refine w_iald (pc' := 99) kd_154 (by (first | omega | (have := hrow (by omega); omega))) (by (first | omega | (have := hrow (by omega); omega))) dX12_gather_98 rfl ?_
              show Wp _ _ _ _ _ _ [gI (σ5 154 j), gR 172]
              rw [(hq_5).rd (k := 154) (i := j) (.inr rfl)]
              rw [hI.e154 (i := j) (by (first | omega | (have := hrow (by omega); omega))) (by (first | omega | (have := hrow (by omega); omega)))]
              refine w_iald (pc' := 100) kd_172 (by (first | omega | (have := hrow (by omega); omega))) (by (first | omega | (have := hrow (by omega); omega))) dX12_gather_99 rfl ?_
              show Wp _ _ _ _ _ _ [gI (f_14 (σ0 43 j))]
              refine w_aload_n (pc' := 101) (i := 0) (by rfl) (by rfl) dX12_gather_100 rfl ?_
              refine w_iload_n (pc' := 102) (i := 1) (by rfl) (by rfl) dX12_gather_101 rfl ?_
              refine w_iconst (pc' := 103) (by decide) dX12_gather_102 rfl ?_
              refine v_callVE (pc' := 106) (st' := [gI (NU σ0 l 0), gI (f_14 (σ0 43 j))]) (d' := 0) (av := [gI l, gI 0]) mi_mX12_numberOf lk_X12_503 rfl ci_X12 kd_133 rfl (Nat.le_of_ble_eq_true rfl) (Nat.le_of_ble_eq_true rfl) dX12_gather_103 rfl rfl (q_numberOf hI ((lm_up (k := 187) (i := 10) (v := n) (lm_nfC 187 (by decide) _)).trans ((lm_up (k := 187) (i := 9) (v := s) (lm_nfC 187 (by decide) _)).trans ((lm_ur (k := 172) (f := f_14) (lm_nfC 172 (by decide))).trans hq_5.1))) l 0 (by omega) (by omega)) ?_
              refine w_icmp_gt (pc' := 109) (t := 188) dX12_gather_106 rfl rfl (fun c_106 => ?_) (fun c_106 => ?_)
              · skip
                refine v_iinc (pc' := 191) (x := j) (ls' := [gR 133, gI l, gI p, gI z, gI d, gI t, gI (j + 1), gX 1]) (by (first | omega | (have := hrow (by omega); omega))) (by decide) (by rfl) (by rfl) dX12_gather_188 rfl ?_
                refine w_goto (pc' := 36) dX12_gather_191 rfl ?_
                exact ih_36 _ (by omega) (j + 1) s n rfl (by omega) (by omega) (by first | (rw [(wS_f h0 (show ¬ _ by omega)).1]; exact hs) | (rw [(wS_t h0 (show _ ∧ _ ∧ _ ∧ _ ∧ _ ∧ _ by omega)).1, hs])) (by first | (rw [(wS_f h0 (show ¬ _ by omega)).2]; exact hn) | (rw [(wS_t h0 (show _ ∧ _ ∧ _ ∧ _ ∧ _ ∧ _ by omega)).2, hn]))
              · skip
                refine w_aload_n (pc' := 110) (i := 0) (by rfl) (by rfl) dX12_gather_109 rfl ?_
                refine w_getS (pc' := 113) (q := 169) fg_X12_121 kd_133 sf_X12_45 gr_133_45 dX12_gather_110 rfl ?_
                refine w_aload_n (pc' := 114) (i := 0) (by rfl) (by rfl) dX12_gather_113 rfl ?_
                refine w_getS (pc' := 117) (q := 153) fg_X12_72 kd_133 sf_X12_27 gr_133_27 dX12_gather_114 rfl ?_
                refine w_iload (pc' := 119) (by rfl) dX12_gather_117 rfl ?_
                refine w_iald (pc' := 120) kd_153 (by (first | omega | (have := hrow (by omega); omega))) (by (first | omega | (have := hrow (by omega); omega))) dX12_gather_119 rfl ?_
                show Wp _ _ _ _ _ _ [gI (σ5 153 j), gR 169]
                rw [(hq_5).rd (k := 153) (i := j) (.inr rfl)]
                rw [hI.e153 (i := j) (by (first | omega | (have := hrow (by omega); omega))) (by (first | omega | (have := hrow (by omega); omega)))]
                refine w_iald (pc' := 121) kd_169 (by (first | omega | (have := hrow (by omega); omega))) (by (first | omega | (have := hrow (by omega); omega))) dX12_gather_120 rfl ?_
                show Wp _ _ _ _ _ _ [gI (σ5 169 (σ0 42 j))]
                refine w_aload_n (pc' := 122) (i := 0) (by rfl) (by rfl) dX12_gather_121 rfl ?_
                refine w_getS (pc' := 125) (q := 169) fg_X12_121 kd_133 sf_X12_45 gr_133_45 dX12_gather_122 rfl ?_
                refine w_iload_n (pc' := 126) (i := 3) (by rfl) (by rfl) dX12_gather_125 rfl ?_
                refine w_iald (pc' := 127) kd_169 (by (first | omega | (have := hrow (by omega); omega))) (by (first | omega | (have := hrow (by omega); omega))) dX12_gather_126 rfl ?_
                show Wp _ _ _ _ _ _ [gI (σ5 169 z), gI (σ5 169 (σ0 42 j))]
                refine w_icmp_eq (pc' := 130) (t := 133) dX12_gather_127 rfl rfl (fun c_127 => ?_) (fun c_127 => ?_)
                · skip
                  refine w_aload_n (pc' := 134) (i := 0) (by rfl) (by rfl) dX12_gather_133 rfl ?_
                  refine w_iload (pc' := 136) (by rfl) dX12_gather_134 rfl ?_
                  refine w_iload (pc' := 138) (by rfl) dX12_gather_136 rfl ?_
                  refine v_callVE (pc' := 141) (st' := [gI (BACK σ0 j t)]) (d' := 0) (av := [gI j, gI t]) mi_mX12_backOf lk_X12_506 rfl ci_X12 kd_133 rfl (Nat.le_of_ble_eq_true rfl) (Nat.le_of_ble_eq_true rfl) dX12_gather_138 rfl rfl (q_backOf hI (QM.up (k := 187) (i := 10) (v := n) (QM.up (k := 187) (i := 9) (v := s) (QM.ur (k := 172) (f := f_14) hq_5 (lm_nfC 172 (by decide)) (fun h => h)) (lm_nfC 187 (by decide) _) (fun h => h)) (lm_nfC 187 (by decide) _) (fun h => h)) j t ⟨by omega, by omega⟩) ?_
                  refine w_istore (pc' := 143) (ls' := [gR 133, gI l, gI p, gI z, gI d, gI t, gI j, gI (BACK σ0 j t)]) (by decide) (by rfl) dX12_gather_141 rfl ?_
                  refine w_iload (pc' := 145) (by rfl) dX12_gather_143 rfl ?_
                  refine w_iconst (pc' := 146) (by decide) dX12_gather_145 rfl ?_
                  refine w_icmp_eq (pc' := 149) (t := 159) dX12_gather_146 rfl rfl (fun c_146 => ?_) (fun c_146 => ?_)
                  · skip
                    refine w_aload_n (pc' := 160) (i := 0) (by rfl) (by rfl) dX12_gather_159 rfl ?_
                    refine w_getS (pc' := 163) (q := 187) fg_X12_181 kd_133 sf_X12_85 gr_133_85 dX12_gather_160 rfl ?_
                    refine w_bipush (pc' := 165) (by decide) (by decide) dX12_gather_163 rfl ?_
                    refine w_dup2 (pc' := 166) dX12_gather_165 rfl ?_
                    refine w_iald (pc' := 167) kd_187 (by (first | omega | (have := hrow (by omega); omega))) (by (first | omega | (have := hrow (by omega); omega))) dX12_gather_166 rfl ?_
                    show Wp _ _ _ _ _ _ [gI s, gI 9, gR 187]
                    refine w_aload_n (pc' := 168) (i := 0) (by rfl) (by rfl) dX12_gather_167 rfl ?_
                    refine w_iload (pc' := 170) (by rfl) dX12_gather_168 rfl ?_
                    refine w_iload (pc' := 172) (by rfl) dX12_gather_170 rfl ?_
                    refine v_callVE (pc' := 175) (st' := [gI (LEAST σ0 j t), gI s, gI 9, gR 187]) (d' := 0) (av := [gI j, gI t]) mi_mX12_leastOf lk_X12_509 rfl ci_X12 kd_133 rfl (Nat.le_of_ble_eq_true rfl) (Nat.le_of_ble_eq_true rfl) dX12_gather_172 rfl rfl (q_leastOf hI (QM.up (k := 187) (i := 10) (v := n) (QM.up (k := 187) (i := 9) (v := s) (QM.ur (k := 172) (f := f_14) hq_5 (lm_nfC 172 (by decide)) (fun h => h)) (lm_nfC 187 (by decide) _) (fun h => h)) (lm_nfC 187 (by decide) _) (fun h => h)) j t ⟨by omega, by omega⟩) ?_
                    refine v_iadd (pc' := 176) (by have := hle (by omega); omega) dX12_gather_175 rfl ?_
                    refine w_iast (pc' := 177) kd_187 (by (first | omega | (have := hrow (by omega); omega))) (by (first | omega | (have := hrow (by omega); omega))) dX12_gather_176 rfl ?_
                    refine Wp.heq (σ' := gUp (gUp (gUr σ5 172 f_14) 187 9 (s + (LEAST σ0 j t))) 187 10 n) ((gUp_ci (by decide)).trans (congrArg (fun z => gUp z 187 10 n) gUp_same)) ?_
                    refine w_aload_n (pc' := 178) (i := 0) (by rfl) (by rfl) dX12_gather_177 rfl ?_
                    refine w_getS (pc' := 181) (q := 187) fg_X12_181 kd_133 sf_X12_85 gr_133_85 dX12_gather_178 rfl ?_
                    refine w_bipush (pc' := 183) (by decide) (by decide) dX12_gather_181 rfl ?_
                    refine w_dup2 (pc' := 184) dX12_gather_183 rfl ?_
                    refine w_iald (pc' := 185) kd_187 (by (first | omega | (have := hrow (by omega); omega))) (by (first | omega | (have := hrow (by omega); omega))) dX12_gather_184 rfl ?_
                    show Wp _ _ _ _ _ _ [gI n, gI 10, gR 187]
                    refine w_iconst (pc' := 186) (by decide) dX12_gather_185 rfl ?_
                    refine v_iadd (pc' := 187) (by (first | omega | (have := hrow (by omega); omega))) dX12_gather_186 rfl ?_
                    refine w_iast (pc' := 188) kd_187 (by (first | omega | (have := hrow (by omega); omega))) (by (first | omega | (have := hrow (by omega); omega))) dX12_gather_187 rfl ?_
                    refine Wp.heq (σ' := gUp (gUp (gUr σ5 172 f_14) 187 9 (s + (LEAST σ0 j t))) 187 10 (n + 1)) gUp_same ?_
                    refine v_iinc (pc' := 191) (x := j) (ls' := [gR 133, gI l, gI p, gI z, gI d, gI t, gI (j + 1), gI (BACK σ0 j t)]) (by (first | omega | (have := hrow (by omega); omega))) (by decide) (by rfl) (by rfl) dX12_gather_188 rfl ?_
                    refine w_goto (pc' := 36) dX12_gather_191 rfl ?_
                    refine Wp.lose (ls' := [gR 133, gI l, gI p, gI z, gI d, gI t, gI (j + 1), gX 1]) ⟨.inr rfl, ⟨.inr rfl, ⟨.inr rfl, ⟨.inr rfl, ⟨.inr rfl, ⟨.inr rfl, ⟨.inr rfl, ⟨.inl rfl, trivial⟩⟩⟩⟩⟩⟩⟩⟩ ?_
                    exact ih_36 _ (by omega) (j + 1) (s + (LEAST σ0 j t)) (n + 1) rfl (by omega) (by omega) (by first | (rw [(wS_f h0 (show ¬ _ by omega)).1]; exact hs) | (rw [(wS_t h0 (show _ ∧ _ ∧ _ ∧ _ ∧ _ ∧ _ by omega)).1, hs])) (by first | (rw [(wS_f h0 (show ¬ _ by omega)).2]; exact hn) | (rw [(wS_t h0 (show _ ∧ _ ∧ _ ∧ _ ∧ _ ∧ _ by omega)).2, hn]))
                  · skip
                    refine w_iload (pc' := 151) (by rfl) dX12_gather_149 rfl ?_
                    refine w_iload (pc' := 153) (by rfl) dX12_gather_151 rfl ?_
                    refine w_icmp_gt (pc' := 156) (t := 159) dX12_gather_153 rfl rfl (fun c_153 => ?_) (fun c_153 => ?_)
                    · skip
                      refine w_aload_n (pc' := 160) (i := 0) (by rfl) (by rfl) dX12_gather_159 rfl ?_
                      refine w_getS (pc' := 163) (q := 187) fg_X12_181 kd_133 sf_X12_85 gr_133_85 dX12_gather_160 rfl ?_
                      refine w_bipush (pc' := 165) (by decide) (by decide) dX12_gather_163 rfl ?_
                      refine w_dup2 (pc' := 166) dX12_gather_165 rfl ?_
                      refine w_iald (pc' := 167) kd_187 (by (first | omega | (have := hrow (by omega); omega))) (by (first | omega | (have := hrow (by omega); omega))) dX12_gather_166 rfl ?_
                      show Wp _ _ _ _ _ _ [gI s, gI 9, gR 187]
                      refine w_aload_n (pc' := 168) (i := 0) (by rfl) (by rfl) dX12_gather_167 rfl ?_
                      refine w_iload (pc' := 170) (by rfl) dX12_gather_168 rfl ?_
                      refine w_iload (pc' := 172) (by rfl) dX12_gather_170 rfl ?_
                      refine v_callVE (pc' := 175) (st' := [gI (LEAST σ0 j t), gI s, gI 9, gR 187]) (d' := 0) (av := [gI j, gI t]) mi_mX12_leastOf lk_X12_509 rfl ci_X12 kd_133 rfl (Nat.le_of_ble_eq_true rfl) (Nat.le_of_ble_eq_true rfl) dX12_gather_172 rfl rfl (q_leastOf hI (QM.up (k := 187) (i := 10) (v := n) (QM.up (k := 187) (i := 9) (v := s) (QM.ur (k := 172) (f := f_14) hq_5 (lm_nfC 172 (by decide)) (fun h => h)) (lm_nfC 187 (by decide) _) (fun h => h)) (lm_nfC 187 (by decide) _) (fun h => h)) j t ⟨by omega, by omega⟩) ?_
                      refine v_iadd (pc' := 176) (by have := hle (by omega); omega) dX12_gather_175 rfl ?_
                      refine w_iast (pc' := 177) kd_187 (by (first | omega | (have := hrow (by omega); omega))) (by (first | omega | (have := hrow (by omega); omega))) dX12_gather_176 rfl ?_
                      refine Wp.heq (σ' := gUp (gUp (gUr σ5 172 f_14) 187 9 (s + (LEAST σ0 j t))) 187 10 n) ((gUp_ci (by decide)).trans (congrArg (fun z => gUp z 187 10 n) gUp_same)) ?_
                      refine w_aload_n (pc' := 178) (i := 0) (by rfl) (by rfl) dX12_gather_177 rfl ?_
                      refine w_getS (pc' := 181) (q := 187) fg_X12_181 kd_133 sf_X12_85 gr_133_85 dX12_gather_178 rfl ?_
                      refine w_bipush (pc' := 183) (by decide) (by decide) dX12_gather_181 rfl ?_
                      refine w_dup2 (pc' := 184) dX12_gather_183 rfl ?_
                      refine w_iald (pc' := 185) kd_187 (by (first | omega | (have := hrow (by omega); omega))) (by (first | omega | (have := hrow (by omega); omega))) dX12_gather_184 rfl ?_
                      show Wp _ _ _ _ _ _ [gI n, gI 10, gR 187]
                      refine w_iconst (pc' := 186) (by decide) dX12_gather_185 rfl ?_
                      refine v_iadd (pc' := 187) (by (first | omega | (have := hrow (by omega); omega))) dX12_gather_186 rfl ?_
                      refine w_iast (pc' := 188) kd_187 (by (first | omega | (have := hrow (by omega); omega))) (by (first | omega | (have := hrow (by omega); omega))) dX12_gather_187 rfl ?_
                      refine Wp.heq (σ' := gUp (gUp (gUr σ5 172 f_14) 187 9 (s + (LEAST σ0 j t))) 187 10 (n + 1)) gUp_same ?_
                      refine v_iinc (pc' := 191) (x := j) (ls' := [gR 133, gI l, gI p, gI z, gI d, gI t, gI (j + 1), gI (BACK σ0 j t)]) (by (first | omega | (have := hrow (by omega); omega))) (by decide) (by rfl) (by rfl) dX12_gather_188 rfl ?_
                      refine w_goto (pc' := 36) dX12_gather_191 rfl ?_
                      refine Wp.lose (ls' := [gR 133, gI l, gI p, gI z, gI d, gI t, gI (j + 1), gX 1]) ⟨.inr rfl, ⟨.inr rfl, ⟨.inr rfl, ⟨.inr rfl, ⟨.inr rfl, ⟨.inr rfl, ⟨.inr rfl, ⟨.inl rfl, trivial⟩⟩⟩⟩⟩⟩⟩⟩ ?_
                      exact ih_36 _ (by omega) (j + 1) (s + (LEAST σ0 j t)) (n + 1) rfl (by omega) (by omega) (by first | (rw [(wS_f h0 (show ¬ _ by omega)).1]; exact hs) | (rw [(wS_t h0 (show _ ∧ _ ∧ _ ∧ _ ∧ _ ∧ _ by omega)).1, hs])) (by first | (rw [(wS_f h0 (show ¬ _ by omega)).2]; exact hn) | (rw [(wS_t h0 (show _ ∧ _ ∧ _ ∧ _ ∧ _ ∧ _ by omega)).2, hn]))
                    · skip
                      refine w_goto (pc' := 188) dX12_gather_156 rfl ?_
                      refine v_iinc (pc' := 191) (x := j) (ls' := [gR 133, gI l, gI p, gI z, gI d, gI t, gI (j + 1), gI (BACK σ0 j t)]) (by (first | omega | (have := hrow (by omega); omega))) (by decide) (by rfl) (by rfl) dX12_gather_188 rfl ?_
                      refine w_goto (pc' := 36) dX12_gather_191 rfl ?_
                      refine Wp.lose (ls' := [gR 133, gI l, gI p, gI z, gI d, gI t, gI (j + 1), gX 1]) ⟨.inr rfl, ⟨.inr rfl, ⟨.inr rfl, ⟨.inr rfl, ⟨.inr rfl, ⟨.inr rfl, ⟨.inr rfl, ⟨.inl rfl, trivial⟩⟩⟩⟩⟩⟩⟩⟩ ?_
                      exact ih_36 _ (by omega) (j + 1) s n rfl (by omega) (by omega) (by first | (rw [(wS_f h0 (show ¬ _ by omega)).1]; exact hs) | (rw [(wS_t h0 (show _ ∧ _ ∧ _ ∧ _ ∧ _ ∧ _ by omega)).1, hs])) (by first | (rw [(wS_f h0 (show ¬ _ by omega)).2]; exact hn) | (rw [(wS_t h0 (show _ ∧ _ ∧ _ ∧ _ ∧ _ ∧ _ by omega)).2, hn]))
                · skip
                  refine w_goto (pc' := 188) dX12_gather_130 rfl ?_
                  refine v_iinc (pc' := 191) (x := j) (ls' := [gR 133, gI l, gI p, gI z, gI d, gI t, gI (j + 1), gX 1]) (by (first | omega | (have := hrow (by omega); omega))) (by decide) (by rfl) (by rfl) dX12_gather_188 rfl ?_
                  refine w_goto (pc' := 36) dX12_gather_191 rfl ?_
                  exact ih_36 _ (by omega) (j + 1) s n rfl (by omega) (by omega) (by first | (rw [(wS_f h0 (show ¬ _ by omega)).1]; exact hs) | (rw [(wS_t h0 (show _ ∧ _ ∧ _ ∧ _ ∧ _ ∧ _ by omega)).1, hs])) (by first | (rw [(wS_f h0 (show ¬ _ by omega)).2]; exact hn) | (rw [(wS_t h0 (show _ ∧ _ ∧ _ ∧ _ ∧ _ ∧ _ by omega)).2, hn]))
  exact hl_36 _ 0 0 0 rfl (by omega) (by omega) (by rfl) (by rfl)
set_option maxHeartbeats 4000000 in
theorem q_judge {σ0 σ : gH} (hI : Inv σ0) (hq : QM σ0 σ) (g t : Int) (hg : 0 ≤ g ∧ g < σ0 41 11) {l : Int} (hl : LI σ0 (σ0 45 g) t = l) : Mt mX12_judge 4 [gR 133, gI g, gI t] σ (fun v σ' => v = gX 1 ∧ QM σ0 σ' ∧ σ' 133 87 = RULE σ0 g t ∧ σ' 133 88 = DUE σ0 g t ∧ σ' 187 9 = SUMV σ0 (σ0 43 g) (σ0 42 g) (σ0 45 g) t l ∧ σ' 187 10 = CNTV σ0 (σ0 43 g) (σ0 42 g) (σ0 45 g) t l ∧ σ' 133 0 = σ 133 0 ∧ σ' 208 = σ 208) := by
  refine Mt.walk (ls := [gR 133, gI g, gI t, gX 1, gX 1, gX 1, gX 1, gX 1]) pn_X12 rfl (fun _ _ h => by cases h.1) (Nat.le_of_ble_eq_true rfl) rfl ?_
  have hp60 := hI.f.hp
  have hz0 := hI.f.hz
  have hrow := gift_row hI hg.1 hg.2
  have hL := LI_law hI (σ0 45 g) t
  rw [hl] at hL
  have hl6 := LI_in hI (σ0 45 g) t
  rw [hl] at hl6
  refine w_aload_n (pc' := 1) (i := 0) (by rfl) (by rfl) dX12_judge_0 rfl ?_
  refine w_getS (pc' := 4) (q := 156) fg_X12_81 kd_133 sf_X12_30 gr_133_30 dX12_judge_1 rfl ?_
  refine w_iload_n (pc' := 5) (i := 1) (by rfl) (by rfl) dX12_judge_4 rfl ?_
  refine w_iald (pc' := 6) kd_156 (by omega) (by omega) dX12_judge_5 rfl ?_
  rw [(hq).rd (k := 156) (i := g) (.inr rfl)]
  rw [hI.e156 (i := g) (by omega) (by omega)]
  refine w_istore_n (pc' := 7) (i := 3) (ls' := [gR 133, gI g, gI t, gI (σ0 45 g), gX 1, gX 1, gX 1, gX 1]) (by rfl) (by decide) (by rfl) dX12_judge_6 rfl ?_
  refine w_aload_n (pc' := 8) (i := 0) (by rfl) (by rfl) dX12_judge_7 rfl ?_
  refine w_iload_n (pc' := 9) (i := 3) (by rfl) (by rfl) dX12_judge_8 rfl ?_
  refine w_iload_n (pc' := 10) (i := 2) (by rfl) (by rfl) dX12_judge_9 rfl ?_
  refine v_callVE (pc' := 13) (st' := [gI l]) (d' := 0) (av := [gI (σ0 45 g), gI t]) mi_mX12_lawFor lk_X12_512 rfl ci_X12 kd_133 rfl (Nat.le_of_ble_eq_true rfl) (Nat.le_of_ble_eq_true rfl) dX12_judge_10 rfl rfl (by have k := q_lawFor hI hq (σ0 45 g) t; rw [hl] at k; exact k) ?_
  refine w_istore (pc' := 15) (ls' := [gR 133, gI g, gI t, gI (σ0 45 g), gI l, gX 1, gX 1, gX 1]) (by decide) (by rfl) dX12_judge_13 rfl ?_
  refine w_iconst (pc' := 16) (by decide) dX12_judge_15 rfl ?_
  refine w_istore (pc' := 18) (ls' := [gR 133, gI g, gI t, gI (σ0 45 g), gI l, gI 0, gX 1, gX 1]) (by decide) (by rfl) dX12_judge_16 rfl ?_
  have hl_18 : ∀ (mm : Nat) (i : Int) (R : Int → Int), (4 - i).toNat = mm → (0 ≤ i) → (i ≤ 4) → (∀ p, 0 ≤ p → p < i → R p = if p = σ0 44 g then 1 else 0) → Wp mX12_judge 4 (fun v σ' => v = gX 1 ∧ QM σ0 σ' ∧ σ' 133 87 = RULE σ0 g t ∧ σ' 133 88 = DUE σ0 g t ∧ σ' 187 9 = SUMV σ0 (σ0 43 g) (σ0 42 g) (σ0 45 g) t l ∧ σ' 187 10 = CNTV σ0 (σ0 43 g) (σ0 42 g) (σ0 45 g) t l ∧ σ' 133 0 = σ 133 0 ∧ σ' 208 = σ 208) (gUr σ 187 R) 18 [gR 133, gI g, gI t, gI (σ0 45 g), gI l, gI i, gX 1, gX 1] [] := by
    intro m_18
    induction m_18 using Nat.strongRecOn with
    | _ m_18 ih_18 =>
      intro i R hmeas_18 hi0 hi1 hR
      refine w_iload (pc' := 20) (by rfl) dX12_judge_18 rfl ?_
      refine w_iconst (pc' := 21) (by decide) dX12_judge_20 rfl ?_
      refine w_icmp_ge (pc' := 24) (t := 53) dX12_judge_21 rfl rfl (fun c_21 => ?_) (fun c_21 => ?_)
      · skip
        refine w_aload_n (pc' := 54) (i := 0) (by rfl) (by rfl) dX12_judge_53 rfl ?_
        refine w_getS (pc' := 57) (q := 187) fg_X12_181 kd_133 sf_X12_85 gr_133_85 dX12_judge_54 rfl ?_
        refine w_iconst (pc' := 58) (by decide) dX12_judge_57 rfl ?_
        refine w_aload_n (pc' := 59) (i := 0) (by rfl) (by rfl) dX12_judge_58 rfl ?_
        refine w_getS (pc' := 62) (q := 163) fg_X12_102 kd_133 sf_X12_37 gr_133_37 dX12_judge_59 rfl ?_
        refine w_iload_n (pc' := 63) (i := 1) (by rfl) (by rfl) dX12_judge_62 rfl ?_
        refine w_zald (pc' := 64) kd_163 (by omega) (by omega) dX12_judge_63 rfl (fun z_63 => ?_)
        show Wp _ _ _ _ _ _ [gI (σ 163 g), gI 4, gR 187]
        rw [(hq).rd (k := 163) (i := g) (.inr rfl)]
        rw [hI.e163 (i := g) (by omega) (by omega)]
        have hj_72 : Wp mX12_judge 4 (fun v σ' => v = gX 1 ∧ QM σ0 σ' ∧ σ' 133 87 = RULE σ0 g t ∧ σ' 133 88 = DUE σ0 g t ∧ σ' 187 9 = SUMV σ0 (σ0 43 g) (σ0 42 g) (σ0 45 g) t l ∧ σ' 187 10 = CNTV σ0 (σ0 43 g) (σ0 42 g) (σ0 45 g) t l ∧ σ' 133 0 = σ 133 0 ∧ σ' 208 = σ 208) (gUr σ 187 R) 72 [gR 133, gI g, gI t, gI (σ0 45 g), gI l, gI i, gX 1, gX 1] [gI (gb (σ0 46 g ≠ 0)), gI 4, gR 187] := by
          refine w_iast (pc' := 73) kd_187 (by omega) (by omega) dX12_judge_72 rfl ?_
          refine Wp.heq (σ' := gUr σ 187 (updI R 4 (gb (σ0 46 g ≠ 0)))) gUp_row ?_
          refine w_aload_n (pc' := 74) (i := 0) (by rfl) (by rfl) dX12_judge_73 rfl ?_
          refine w_iload (pc' := 76) (by rfl) dX12_judge_74 rfl ?_
          refine w_aload_n (pc' := 77) (i := 0) (by rfl) (by rfl) dX12_judge_76 rfl ?_
          refine w_getS (pc' := 80) (q := 154) fg_X12_75 kd_133 sf_X12_28 gr_133_28 dX12_judge_77 rfl ?_
          refine w_iload_n (pc' := 81) (i := 1) (by rfl) (by rfl) dX12_judge_80 rfl ?_
          refine w_iald (pc' := 82) kd_154 (by omega) (by omega) dX12_judge_81 rfl ?_
          show Wp _ _ _ _ _ _ [gI (σ 154 g), gI l, gR 133]
          rw [(hq).rd (k := 154) (i := g) (.inr rfl)]
          rw [hI.e154 (i := g) (by omega) (by omega)]
          refine w_aload_n (pc' := 83) (i := 0) (by rfl) (by rfl) dX12_judge_82 rfl ?_
          refine w_getS (pc' := 86) (q := 153) fg_X12_72 kd_133 sf_X12_27 gr_133_27 dX12_judge_83 rfl ?_
          refine w_iload_n (pc' := 87) (i := 1) (by rfl) (by rfl) dX12_judge_86 rfl ?_
          refine w_iald (pc' := 88) kd_153 (by omega) (by omega) dX12_judge_87 rfl ?_
          show Wp _ _ _ _ _ _ [gI (σ 153 g), gI (σ0 43 g), gI l, gR 133]
          rw [(hq).rd (k := 153) (i := g) (.inr rfl)]
          rw [hI.e153 (i := g) (by omega) (by omega)]
          refine w_iload_n (pc' := 89) (i := 3) (by rfl) (by rfl) dX12_judge_88 rfl ?_
          refine w_iload_n (pc' := 90) (i := 2) (by rfl) (by rfl) dX12_judge_89 rfl ?_
          refine w_callV (pc' := 93) (d' := 3) (av := [gI l, gI (σ0 43 g), gI (σ0 42 g), gI (σ0 45 g), gI t]) mi_mX12_gather lk_X12_515 rfl ci_X12 kd_133 rfl (Nat.le_of_ble_eq_true rfl) (Nat.le_of_ble_eq_true rfl) dX12_judge_90 rfl (q_gather hI (QM.ur (k := 187) (f := (updI R 4 (gb (σ0 46 g ≠ 0)))) hq (lm_nfC 187 (by decide)) (fun h => h)) hL (σ0 43 g) (σ0 42 g) (σ0 45 g) t (by omega) (by omega) (by omega)) (fun v_90 σ_90 q_90 => ?_)
          obtain ⟨rfl, σ90, D90, hq_90, hk_90, hw_90, hD_90, rfl⟩ := q_90
          have hdg := hD_90 (σ0 42 g) (by omega) (by omega)
          have hdp := DG_pos (σ := σ0) (x := σ0 43 g) (d := σ0 45 g) (t := t) (y := σ0 42 g) hrow.2.2.1
          show Wp _ _ _ _ _ _ []
          refine w_aload_n (pc' := 94) (i := 0) (by rfl) (by rfl) dX12_judge_93 rfl ?_
          refine w_getS (pc' := 97) (q := 187) fg_X12_181 kd_133 sf_X12_85 gr_133_85 dX12_judge_94 rfl ?_
          refine w_iconst (pc' := 98) (by decide) dX12_judge_97 rfl ?_
          have hj_152 : Wp mX12_judge 4 (fun v σ' => v = gX 1 ∧ QM σ0 σ' ∧ σ' 133 87 = RULE σ0 g t ∧ σ' 133 88 = DUE σ0 g t ∧ σ' 187 9 = SUMV σ0 (σ0 43 g) (σ0 42 g) (σ0 45 g) t l ∧ σ' 187 10 = CNTV σ0 (σ0 43 g) (σ0 42 g) (σ0 45 g) t l ∧ σ' 133 0 = σ 133 0 ∧ σ' 208 = σ 208) (gUp (gUp (gUr σ90 172 D90) 187 9 (SUMV σ0 (σ0 43 g) (σ0 42 g) (σ0 45 g) t l)) 187 10 (CNTV σ0 (σ0 43 g) (σ0 42 g) (σ0 45 g) t l)) 152 [gR 133, gI g, gI t, gI (σ0 45 g), gI l, gI i, gX 1, gX 1] [gI (gb (σ0 4 (σ0 42 g) = 0 ∧ DG σ0 (σ0 43 g) (σ0 45 g) t (σ0 42 g) ≤ NU σ0 l 0)), gI 5, gR 187] := by
            refine w_iast (pc' := 153) kd_187 (by omega) (by omega) dX12_judge_152 rfl ?_
            refine w_aload_n (pc' := 154) (i := 0) (by rfl) (by rfl) dX12_judge_153 rfl ?_
            refine w_getS (pc' := 157) (q := 187) fg_X12_181 kd_133 sf_X12_85 gr_133_85 dX12_judge_154 rfl ?_
            refine w_bipush (pc' := 159) (by decide) (by decide) dX12_judge_157 rfl ?_
            refine w_aload_n (pc' := 160) (i := 0) (by rfl) (by rfl) dX12_judge_159 rfl ?_
            refine w_iload_n (pc' := 161) (i := 1) (by rfl) (by rfl) dX12_judge_160 rfl ?_
            refine w_iload_n (pc' := 162) (i := 2) (by rfl) (by rfl) dX12_judge_161 rfl ?_
            refine v_callVE (pc' := 165) (st' := [gI (LEAST σ0 g t), gI 7, gR 187]) (d' := 0) (av := [gI g, gI t]) mi_mX12_leastOf lk_X12_509 rfl ci_X12 kd_133 rfl (Nat.le_of_ble_eq_true rfl) (Nat.le_of_ble_eq_true rfl) dX12_judge_162 rfl rfl (q_leastOf hI (QM.up (k := 187) (i := 5) (v := (gb (σ0 4 (σ0 42 g) = 0 ∧ DG σ0 (σ0 43 g) (σ0 45 g) t (σ0 42 g) ≤ NU σ0 l 0))) (QM.up (k := 187) (i := 10) (v := (CNTV σ0 (σ0 43 g) (σ0 42 g) (σ0 45 g) t l)) (QM.up (k := 187) (i := 9) (v := (SUMV σ0 (σ0 43 g) (σ0 42 g) (σ0 45 g) t l)) (QM.ur (k := 172) (f := D90) hq_90 (lm_nfC 172 (by decide)) (fun h => h)) (lm_nfC 187 (by decide) _) (fun h => h)) (lm_nfC 187 (by decide) _) (fun h => h)) (lm_nfC 187 (by decide) _) (fun h => h)) g t ⟨by omega, by omega⟩) ?_
            refine w_iast (pc' := 166) kd_187 (by omega) (by omega) dX12_judge_165 rfl ?_
            refine w_aload_n (pc' := 167) (i := 0) (by rfl) (by rfl) dX12_judge_166 rfl ?_
            refine w_getS (pc' := 170) (q := 187) fg_X12_181 kd_133 sf_X12_85 gr_133_85 dX12_judge_167 rfl ?_
            refine w_bipush (pc' := 172) (by decide) (by decide) dX12_judge_170 rfl ?_
            refine w_aload_n (pc' := 173) (i := 0) (by rfl) (by rfl) dX12_judge_172 rfl ?_
            refine w_iload_n (pc' := 174) (i := 1) (by rfl) (by rfl) dX12_judge_173 rfl ?_
            refine w_iload_n (pc' := 175) (i := 2) (by rfl) (by rfl) dX12_judge_174 rfl ?_
            refine v_callVE (pc' := 178) (st' := [gI (MOST σ0 g t), gI 8, gR 187]) (d' := 0) (av := [gI g, gI t]) mi_mX12_mostOf lk_X12_519 rfl ci_X12 kd_133 rfl (Nat.le_of_ble_eq_true rfl) (Nat.le_of_ble_eq_true rfl) dX12_judge_175 rfl rfl (q_mostOf hI (QM.up (k := 187) (i := 7) (v := (LEAST σ0 g t)) (QM.up (k := 187) (i := 5) (v := (gb (σ0 4 (σ0 42 g) = 0 ∧ DG σ0 (σ0 43 g) (σ0 45 g) t (σ0 42 g) ≤ NU σ0 l 0))) (QM.up (k := 187) (i := 10) (v := (CNTV σ0 (σ0 43 g) (σ0 42 g) (σ0 45 g) t l)) (QM.up (k := 187) (i := 9) (v := (SUMV σ0 (σ0 43 g) (σ0 42 g) (σ0 45 g) t l)) (QM.ur (k := 172) (f := D90) hq_90 (lm_nfC 172 (by decide)) (fun h => h)) (lm_nfC 187 (by decide) _) (fun h => h)) (lm_nfC 187 (by decide) _) (fun h => h)) (lm_nfC 187 (by decide) _) (fun h => h)) (lm_nfC 187 (by decide) _) (fun h => h)) g t ⟨by omega, by omega⟩) ?_
            refine w_iast (pc' := 179) kd_187 (by omega) (by omega) dX12_judge_178 rfl ?_
            refine w_aload_n (pc' := 180) (i := 0) (by rfl) (by rfl) dX12_judge_179 rfl ?_
            refine w_iconst (pc' := 181) (by decide) dX12_judge_180 rfl ?_
            refine v_putI (pc' := 184) (ji := 87) rfl fp_X12_522 kd_133 sf_X12_87 dX12_judge_181 rfl ?_
            refine w_aload_n (pc' := 185) (i := 0) (by rfl) (by rfl) dX12_judge_184 rfl ?_
            refine w_iconst (pc' := 186) (by decide) dX12_judge_185 rfl ?_
            refine v_putI (pc' := 189) (ji := 88) rfl fp_X12_525 kd_133 sf_X12_88 dX12_judge_186 rfl ?_
            refine w_aload_n (pc' := 190) (i := 0) (by rfl) (by rfl) dX12_judge_189 rfl ?_
            refine w_iload_n (pc' := 191) (i := 1) (by rfl) (by rfl) dX12_judge_190 rfl ?_
            refine w_iload_n (pc' := 192) (i := 2) (by rfl) (by rfl) dX12_judge_191 rfl ?_
            refine v_callVE (pc' := 195) (st' := [gI (BACK σ0 g t)]) (d' := 0) (av := [gI g, gI t]) mi_mX12_backOf lk_X12_506 rfl ci_X12 kd_133 rfl (Nat.le_of_ble_eq_true rfl) (Nat.le_of_ble_eq_true rfl) dX12_judge_192 rfl rfl (q_backOf hI (QM.up (k := 133) (i := 88) (v := (-1)) (QM.up (k := 133) (i := 87) (v := (-1)) (QM.up (k := 187) (i := 8) (v := (MOST σ0 g t)) (QM.up (k := 187) (i := 7) (v := (LEAST σ0 g t)) (QM.up (k := 187) (i := 5) (v := (gb (σ0 4 (σ0 42 g) = 0 ∧ DG σ0 (σ0 43 g) (σ0 45 g) t (σ0 42 g) ≤ NU σ0 l 0))) (QM.up (k := 187) (i := 10) (v := (CNTV σ0 (σ0 43 g) (σ0 42 g) (σ0 45 g) t l)) (QM.up (k := 187) (i := 9) (v := (SUMV σ0 (σ0 43 g) (σ0 42 g) (σ0 45 g) t l)) (QM.ur (k := 172) (f := D90) hq_90 (lm_nfC 172 (by decide)) (fun h => h)) (lm_nfC 187 (by decide) _) (fun h => h)) (lm_nfC 187 (by decide) _) (fun h => h)) (lm_nfC 187 (by decide) _) (fun h => h)) (lm_nfC 187 (by decide) _) (fun h => h)) (lm_nfC 187 (by decide) _) (fun h => h)) (by decide) (fun h => h)) (by decide) (fun h => h)) g t ⟨by omega, by omega⟩) ?_
            refine w_istore (pc' := 197) (ls' := [gR 133, gI g, gI t, gI (σ0 45 g), gI l, gI (BACK σ0 g t), gX 1, gX 1]) (by decide) (by rfl) dX12_judge_195 rfl ?_
            refine w_iconst (pc' := 198) (by decide) dX12_judge_197 rfl ?_
            refine w_istore (pc' := 200) (ls' := [gR 133, gI g, gI t, gI (σ0 45 g), gI l, gI (BACK σ0 g t), gI 0, gX 1]) (by decide) (by rfl) dX12_judge_198 rfl ?_
            have hte0 := hL.num.2.2.2.2.2.1.2
            have hfor : gb (σ0 46 g ≠ 0) = σ0 46 g := by
              have x := (gift_row hI hg.1 hg.2).2.2.2.2.2.1
              unfold gb
              by_cases c : σ0 46 g = 0
              · rw [if_neg (fun y => y c), c]
              · rw [if_pos c]; omega
            have h9 : ∀ p, σ90 187 p = updI R 4 (gb (σ0 46 g ≠ 0)) p := fun p => hk_90 187 p rfl
            have hval : ∀ (ru du b : Int) (V : Int → Int) (p : Int), 0 ≤ p → p ≤ 10 → (gUr (gUp (gUp (gUp (gUp (gUp (gUp (gUp (gUp (gUr σ90 172 D90) 187 9 (SUMV σ0 (σ0 43 g) (σ0 42 g) (σ0 45 g) t l)) 187 10 (CNTV σ0 (σ0 43 g) (σ0 42 g) (σ0 45 g) t l)) 187 5 (gb (σ0 4 (σ0 42 g) = 0 ∧ DG σ0 (σ0 43 g) (σ0 45 g) t (σ0 42 g) ≤ NU σ0 l 0))) 187 7 (LEAST σ0 g t)) 187 8 (MOST σ0 g t)) 133 87 ru) 133 88 du) 187 6 b) 188 V) 187 p = FJ σ0 g t l b p := by
              intro ru du b V p p0 p1
              show (if p = 6 then b else (if p = 8 then MOST σ0 g t else (if p = 7 then LEAST σ0 g t else (if p = 5 then gb (σ0 4 (σ0 42 g) = 0 ∧ DG σ0 (σ0 43 g) (σ0 45 g) t (σ0 42 g) ≤ NU σ0 l 0) else (if p = 10 then CNTV σ0 (σ0 43 g) (σ0 42 g) (σ0 45 g) t l else (if p = 9 then SUMV σ0 (σ0 43 g) (σ0 42 g) (σ0 45 g) t l else (σ90 187 p))))))) = _
              rw [h9, hfor]
              have r := (gift_row hI hg.1 hg.2).2.2.2.1
              have R0 := hR 0
              have R1 := hR 1
              have R2 := hR 2
              have R3 := hR 3
              rcases (show p = 0 ∨ p = 1 ∨ p = 2 ∨ p = 3 ∨ p = 4 ∨ p = 5 ∨ p = 6 ∨ p = 7 ∨ p = 8 ∨ p = 9 ∨ p = 10 by omega) with rfl | rfl | rfl | rfl | rfl | rfl | rfl | rfl | rfl | rfl | rfl
              · rw [show FJ σ0 g t l b 0 = (if (0 : Int) = σ0 44 g then 1 else 0) from rfl, ← R0 (by omega) (by omega)]; rfl
              · rw [show FJ σ0 g t l b 1 = (if (1 : Int) = σ0 44 g then 1 else 0) from rfl, ← R1 (by omega) (by omega)]; rfl
              · rw [show FJ σ0 g t l b 2 = (if (2 : Int) = σ0 44 g then 1 else 0) from rfl, ← R2 (by omega) (by omega)]; rfl
              · rw [show FJ σ0 g t l b 3 = (if (3 : Int) = σ0 44 g then 1 else 0) from rfl, ← R3 (by omega) (by omega)]; rfl
              all_goals rfl
            have hl_200 : ∀ (mm : Nat) (k ru du bk x7 : Int) (V : Int → Int), (TE σ0 l - k).toNat = mm → (0 ≤ k) → (k ≤ TE σ0 l) → (ru = fstI (fun k => jP σ0 g t l k) k.toNat) → (du = if ru = -1 then -1 else σ0 45 g + WI σ0 l ru) → Wp mX12_judge 4 (fun v σ' => v = gX 1 ∧ QM σ0 σ' ∧ σ' 133 87 = RULE σ0 g t ∧ σ' 133 88 = DUE σ0 g t ∧ σ' 187 9 = SUMV σ0 (σ0 43 g) (σ0 42 g) (σ0 45 g) t l ∧ σ' 187 10 = CNTV σ0 (σ0 43 g) (σ0 42 g) (σ0 45 g) t l ∧ σ' 133 0 = σ 133 0 ∧ σ' 208 = σ 208) (gUr (gUp (gUp (gUp (gUp (gUp (gUp (gUp (gUp (gUr σ90 172 D90) 187 9 (SUMV σ0 (σ0 43 g) (σ0 42 g) (σ0 45 g) t l)) 187 10 (CNTV σ0 (σ0 43 g) (σ0 42 g) (σ0 45 g) t l)) 187 5 (gb (σ0 4 (σ0 42 g) = 0 ∧ DG σ0 (σ0 43 g) (σ0 45 g) t (σ0 42 g) ≤ NU σ0 l 0))) 187 7 (LEAST σ0 g t)) 187 8 (MOST σ0 g t)) 133 87 ru) 133 88 du) 187 6 bk) 188 V) 200 [gR 133, gI g, gI t, gI (σ0 45 g), gI l, gI (BACK σ0 g t), gI k, gX 1] [] := by
              intro m_200
              induction m_200 using Nat.strongRecOn with
              | _ m_200 ih_200 =>
                intro k ru du bk x7 V hmeas_200 h0 h1 hru hdu
                have hte := hL.num.2.2.2.2.2.1.2.2
                have hri := fstI_in (P := (fun k => jP σ0 g t l k)) k.toNat
                rw [← hru] at hri
                have hwk := fun h : k < TE σ0 l => (hL.within h0 h).2
                have hWI : WI σ0 l k = σ0 176 (8 * l + k) := rfl
                have hTE : l ≠ -1 → TE σ0 l = σ0 175 l := fun h => if_neg h
                have hTE1 : l = -1 → TE σ0 l = 0 := fun h => if_pos h
                have hvv : k < TE σ0 l → ∀ p, 0 ≤ p → p ≤ 10 → (gUr (gUp (gUp (gUp (gUp (gUp (gUp (gUp (gUp (gUr σ90 172 D90) 187 9 (SUMV σ0 (σ0 43 g) (σ0 42 g) (σ0 45 g) t l)) 187 10 (CNTV σ0 (σ0 43 g) (σ0 42 g) (σ0 45 g) t l)) 187 5 (gb (σ0 4 (σ0 42 g) = 0 ∧ DG σ0 (σ0 43 g) (σ0 45 g) t (σ0 42 g) ≤ NU σ0 l 0))) 187 7 (LEAST σ0 g t)) 187 8 (MOST σ0 g t)) 133 87 ru) 133 88 du) 187 6 (bkv σ0 g t l k)) 188 V) 187 p = FJ σ0 g t l (bkv σ0 g t l k) p := fun hlt p p0 p1 => hval ru du _ V p p0 p1
                refine w_iload (pc' := 202) (by rfl) dX12_judge_200 rfl ?_
                refine w_iconst (pc' := 203) (by decide) dX12_judge_202 rfl ?_
                refine w_icmp_eq (pc' := 206) (t := 300) dX12_judge_203 rfl rfl (fun c_203 => ?_) (fun c_203 => ?_)
                · skip
                  refine w_return rfl dX12_judge_300 ?_
                  have hte := hL.num.2.2.2.2.2.1
                  have er : ru = RULE σ0 g t := by
                    have e1 : RULE σ0 g t = fstI (fun k => jP σ0 g t l k) (TE σ0 l).toNat := by rw [← hl]; rfl
                    rw [e1]
                    by_cases e : k = TE σ0 l
                    · rw [hru, e]
                    · have ne : fstI (fun k => jP σ0 g t l k) k.toNat ≠ -1 := by rw [← hru]; omega
                      rw [hru]
                      exact (fstI_keep ne _ (by omega)).symm
                  have ed : du = DUE σ0 g t := by
                    unfold DUE
                    rw [hdu, er, hl]
                  refine ⟨rfl, (QM.ur (k := 188) (f := V) (QM.up (k := 187) (i := 6) (v := bk) (QM.up (k := 133) (i := 88) (v := du) (QM.up (k := 133) (i := 87) (v := ru) (QM.up (k := 187) (i := 8) (v := (MOST σ0 g t)) (QM.up (k := 187) (i := 7) (v := (LEAST σ0 g t)) (QM.up (k := 187) (i := 5) (v := (gb (σ0 4 (σ0 42 g) = 0 ∧ DG σ0 (σ0 43 g) (σ0 45 g) t (σ0 42 g) ≤ NU σ0 l 0))) (QM.up (k := 187) (i := 10) (v := (CNTV σ0 (σ0 43 g) (σ0 42 g) (σ0 45 g) t l)) (QM.up (k := 187) (i := 9) (v := (SUMV σ0 (σ0 43 g) (σ0 42 g) (σ0 45 g) t l)) (QM.ur (k := 172) (f := D90) hq_90 (lm_nfC 172 (by decide)) (fun h => h)) (lm_nfC 187 (by decide) _) (fun h => h)) (lm_nfC 187 (by decide) _) (fun h => h)) (lm_nfC 187 (by decide) _) (fun h => h)) (lm_nfC 187 (by decide) _) (fun h => h)) (lm_nfC 187 (by decide) _) (fun h => h)) (by decide) (fun h => h)) (by decide) (fun h => h)) (lm_nfC 187 (by decide) _) (fun h => h)) (lm_nfC 188 (by decide)) (fun h => h)), er, ed, rfl, rfl, ?_, ?_⟩
                  · show σ90 133 0 = σ 133 0
                    exact hk_90 133 0 rfl
                  · show σ90 208 = σ 208
                    exact funext fun i => hk_90 208 i rfl
                · skip
                  refine w_iload (pc' := 208) (by rfl) dX12_judge_206 rfl ?_
                  refine w_aload_n (pc' := 209) (i := 0) (by rfl) (by rfl) dX12_judge_208 rfl ?_
                  refine w_getS (pc' := 212) (q := 175) fg_X12_145 kd_133 sf_X12_66 gr_133_66 dX12_judge_209 rfl ?_
                  refine w_iload (pc' := 214) (by rfl) dX12_judge_212 rfl ?_
                  refine w_iald (pc' := 215) kd_175 (by omega) (by omega) dX12_judge_214 rfl ?_
                  show Wp _ _ _ _ _ _ [gI (σ90 175 l), gI k]
                  rw [(hq_90).rd (k := 175) (i := l) (.inr rfl)]
                  refine w_icmp_ge (pc' := 218) (t := 300) dX12_judge_215 rfl rfl (fun c_215 => ?_) (fun c_215 => ?_)
                  · skip
                    refine w_return rfl dX12_judge_300 ?_
                    have hte := hL.num.2.2.2.2.2.1
                    have er : ru = RULE σ0 g t := by
                      have e1 : RULE σ0 g t = fstI (fun k => jP σ0 g t l k) (TE σ0 l).toNat := by rw [← hl]; rfl
                      rw [e1]
                      by_cases e : k = TE σ0 l
                      · rw [hru, e]
                      · have ne : fstI (fun k => jP σ0 g t l k) k.toNat ≠ -1 := by rw [← hru]; omega
                        rw [hru]
                        exact (fstI_keep ne _ (by omega)).symm
                    have ed : du = DUE σ0 g t := by
                      unfold DUE
                      rw [hdu, er, hl]
                    refine ⟨rfl, (QM.ur (k := 188) (f := V) (QM.up (k := 187) (i := 6) (v := bk) (QM.up (k := 133) (i := 88) (v := du) (QM.up (k := 133) (i := 87) (v := ru) (QM.up (k := 187) (i := 8) (v := (MOST σ0 g t)) (QM.up (k := 187) (i := 7) (v := (LEAST σ0 g t)) (QM.up (k := 187) (i := 5) (v := (gb (σ0 4 (σ0 42 g) = 0 ∧ DG σ0 (σ0 43 g) (σ0 45 g) t (σ0 42 g) ≤ NU σ0 l 0))) (QM.up (k := 187) (i := 10) (v := (CNTV σ0 (σ0 43 g) (σ0 42 g) (σ0 45 g) t l)) (QM.up (k := 187) (i := 9) (v := (SUMV σ0 (σ0 43 g) (σ0 42 g) (σ0 45 g) t l)) (QM.ur (k := 172) (f := D90) hq_90 (lm_nfC 172 (by decide)) (fun h => h)) (lm_nfC 187 (by decide) _) (fun h => h)) (lm_nfC 187 (by decide) _) (fun h => h)) (lm_nfC 187 (by decide) _) (fun h => h)) (lm_nfC 187 (by decide) _) (fun h => h)) (lm_nfC 187 (by decide) _) (fun h => h)) (by decide) (fun h => h)) (by decide) (fun h => h)) (lm_nfC 187 (by decide) _) (fun h => h)) (lm_nfC 188 (by decide)) (fun h => h)), er, ed, rfl, rfl, ?_, ?_⟩
                    · show σ90 133 0 = σ 133 0
                      exact hk_90 133 0 rfl
                    · show σ90 208 = σ 208
                      exact funext fun i => hk_90 208 i rfl
                  · skip
                    refine w_aload_n (pc' := 219) (i := 0) (by rfl) (by rfl) dX12_judge_218 rfl ?_
                    refine v_getI (pc' := 222) (ji := 87) rfl fg_X12_522 kd_133 dX12_judge_219 rfl ?_
                    show Wp _ _ _ _ _ _ [gI ru]
                    refine w_iconst (pc' := 223) (by decide) dX12_judge_222 rfl ?_
                    refine w_icmp_ne (pc' := 226) (t := 300) dX12_judge_223 rfl rfl (fun c_223 => ?_) (fun c_223 => ?_)
                    · skip
                      refine w_return rfl dX12_judge_300 ?_
                      have hte := hL.num.2.2.2.2.2.1
                      have er : ru = RULE σ0 g t := by
                        have e1 : RULE σ0 g t = fstI (fun k => jP σ0 g t l k) (TE σ0 l).toNat := by rw [← hl]; rfl
                        rw [e1]
                        by_cases e : k = TE σ0 l
                        · rw [hru, e]
                        · have ne : fstI (fun k => jP σ0 g t l k) k.toNat ≠ -1 := by rw [← hru]; omega
                          rw [hru]
                          exact (fstI_keep ne _ (by omega)).symm
                      have ed : du = DUE σ0 g t := by
                        unfold DUE
                        rw [hdu, er, hl]
                      refine ⟨rfl, (QM.ur (k := 188) (f := V) (QM.up (k := 187) (i := 6) (v := bk) (QM.up (k := 133) (i := 88) (v := du) (QM.up (k := 133) (i := 87) (v := ru) (QM.up (k := 187) (i := 8) (v := (MOST σ0 g t)) (QM.up (k := 187) (i := 7) (v := (LEAST σ0 g t)) (QM.up (k := 187) (i := 5) (v := (gb (σ0 4 (σ0 42 g) = 0 ∧ DG σ0 (σ0 43 g) (σ0 45 g) t (σ0 42 g) ≤ NU σ0 l 0))) (QM.up (k := 187) (i := 10) (v := (CNTV σ0 (σ0 43 g) (σ0 42 g) (σ0 45 g) t l)) (QM.up (k := 187) (i := 9) (v := (SUMV σ0 (σ0 43 g) (σ0 42 g) (σ0 45 g) t l)) (QM.ur (k := 172) (f := D90) hq_90 (lm_nfC 172 (by decide)) (fun h => h)) (lm_nfC 187 (by decide) _) (fun h => h)) (lm_nfC 187 (by decide) _) (fun h => h)) (lm_nfC 187 (by decide) _) (fun h => h)) (lm_nfC 187 (by decide) _) (fun h => h)) (lm_nfC 187 (by decide) _) (fun h => h)) (by decide) (fun h => h)) (by decide) (fun h => h)) (lm_nfC 187 (by decide) _) (fun h => h)) (lm_nfC 188 (by decide)) (fun h => h)), er, ed, rfl, rfl, ?_, ?_⟩
                      · show σ90 133 0 = σ 133 0
                        exact hk_90 133 0 rfl
                      · show σ90 208 = σ 208
                        exact funext fun i => hk_90 208 i rfl
                    · skip
                      refine w_iload_n (pc' := 227) (i := 3) (by rfl) (by rfl) dX12_judge_226 rfl ?_
                      refine w_aload_n (pc' := 228) (i := 0) (by rfl) (by rfl) dX12_judge_227 rfl ?_
                      refine w_getS (pc' := 231) (q := 176) fg_X12_148 kd_133 sf_X12_67 gr_133_67 dX12_judge_228 rfl ?_
                      refine w_bipush (pc' := 233) (by decide) (by decide) dX12_judge_231 rfl ?_
                      refine w_iload (pc' := 235) (by rfl) dX12_judge_233 rfl ?_
                      refine v_imul (pc' := 236) (by omega) dX12_judge_235 rfl ?_
                      refine w_iload (pc' := 238) (by rfl) dX12_judge_236 rfl ?_
                      refine v_iadd (pc' := 239) (by omega) dX12_judge_238 rfl ?_
                      refine w_iald (pc' := 240) kd_176 (by omega) (by omega) dX12_judge_239 rfl ?_
                      show Wp _ _ _ _ _ _ [gI (σ90 176 ((8 * l) + k)), gI (σ0 45 g)]
                      rw [(hq_90).rd (k := 176) (i := (8 * l) + k) (.inr rfl)]
                      refine v_iadd (pc' := 241) (by have := hwk (by omega); omega) dX12_judge_240 rfl ?_
                      refine w_istore (pc' := 243) (ls' := [gR 133, gI g, gI t, gI (σ0 45 g), gI l, gI (BACK σ0 g t), gI k, gI ((σ0 45 g) + (σ0 176 ((8 * l) + k)))]) (by decide) (by rfl) dX12_judge_241 rfl ?_
                      refine w_aload_n (pc' := 244) (i := 0) (by rfl) (by rfl) dX12_judge_243 rfl ?_
                      refine w_getS (pc' := 247) (q := 187) fg_X12_181 kd_133 sf_X12_85 gr_133_85 dX12_judge_244 rfl ?_
                      refine w_bipush (pc' := 249) (by decide) (by decide) dX12_judge_247 rfl ?_
                      have hj_267 : Wp mX12_judge 4 (fun v σ' => v = gX 1 ∧ QM σ0 σ' ∧ σ' 133 87 = RULE σ0 g t ∧ σ' 133 88 = DUE σ0 g t ∧ σ' 187 9 = SUMV σ0 (σ0 43 g) (σ0 42 g) (σ0 45 g) t l ∧ σ' 187 10 = CNTV σ0 (σ0 43 g) (σ0 42 g) (σ0 45 g) t l ∧ σ' 133 0 = σ 133 0 ∧ σ' 208 = σ 208) (gUr (gUp (gUp (gUp (gUp (gUp (gUp (gUp (gUp (gUr σ90 172 D90) 187 9 (SUMV σ0 (σ0 43 g) (σ0 42 g) (σ0 45 g) t l)) 187 10 (CNTV σ0 (σ0 43 g) (σ0 42 g) (σ0 45 g) t l)) 187 5 (gb (σ0 4 (σ0 42 g) = 0 ∧ DG σ0 (σ0 43 g) (σ0 45 g) t (σ0 42 g) ≤ NU σ0 l 0))) 187 7 (LEAST σ0 g t)) 187 8 (MOST σ0 g t)) 133 87 ru) 133 88 du) 187 6 bk) 188 V) 267 [gR 133, gI g, gI t, gI (σ0 45 g), gI l, gI (BACK σ0 g t), gI k, gI ((σ0 45 g) + (σ0 176 ((8 * l) + k)))] [gI (gb (BACK σ0 g t ≠ -1 ∧ BACK σ0 g t ≤ σ0 45 g + (σ0 176 (8 * l + k)))), gI 6, gR 187] := by
                        refine w_iast (pc' := 268) kd_187 (by omega) (by omega) dX12_judge_267 rfl ?_
                        refine Wp.heq (σ' := gUr (gUp (gUp (gUp (gUp (gUp (gUp (gUp (gUp (gUr σ90 172 D90) 187 9 (SUMV σ0 (σ0 43 g) (σ0 42 g) (σ0 45 g) t l)) 187 10 (CNTV σ0 (σ0 43 g) (σ0 42 g) (σ0 45 g) t l)) 187 5 (gb (σ0 4 (σ0 42 g) = 0 ∧ DG σ0 (σ0 43 g) (σ0 45 g) t (σ0 42 g) ≤ NU σ0 l 0))) 187 7 (LEAST σ0 g t)) 187 8 (MOST σ0 g t)) 133 87 ru) 133 88 du) 187 6 (gb (BACK σ0 g t ≠ -1 ∧ BACK σ0 g t ≤ σ0 45 g + (σ0 176 (8 * l + k))))) 188 V) ((gUp_cr (by decide)).trans (congrArg (fun z => gUr z 188 V) gUp_same)) ?_
                        refine w_aload_n (pc' := 269) (i := 0) (by rfl) (by rfl) dX12_judge_268 rfl ?_
                        refine w_iload (pc' := 271) (by rfl) dX12_judge_269 rfl ?_
                        refine w_iload (pc' := 273) (by rfl) dX12_judge_271 rfl ?_
                        refine w_callV (pc' := 276) (d' := 2) (av := [gI l, gI k]) mi_mX12_holds lk_X12_528 rfl ci_X12 kd_133 rfl (Nat.le_of_ble_eq_true rfl) (Nat.le_of_ble_eq_true rfl) dX12_judge_273 rfl (q_holds hI (QM.ur (k := 188) (f := V) (QM.up (k := 187) (i := 6) (v := (gb (BACK σ0 g t ≠ -1 ∧ BACK σ0 g t ≤ σ0 45 g + (σ0 176 (8 * l + k))))) (QM.up (k := 133) (i := 88) (v := du) (QM.up (k := 133) (i := 87) (v := ru) (QM.up (k := 187) (i := 8) (v := (MOST σ0 g t)) (QM.up (k := 187) (i := 7) (v := (LEAST σ0 g t)) (QM.up (k := 187) (i := 5) (v := (gb (σ0 4 (σ0 42 g) = 0 ∧ DG σ0 (σ0 43 g) (σ0 45 g) t (σ0 42 g) ≤ NU σ0 l 0))) (QM.up (k := 187) (i := 10) (v := (CNTV σ0 (σ0 43 g) (σ0 42 g) (σ0 45 g) t l)) (QM.up (k := 187) (i := 9) (v := (SUMV σ0 (σ0 43 g) (σ0 42 g) (σ0 45 g) t l)) (QM.ur (k := 172) (f := D90) hq_90 (lm_nfC 172 (by decide)) (fun h => h)) (lm_nfC 187 (by decide) _) (fun h => h)) (lm_nfC 187 (by decide) _) (fun h => h)) (lm_nfC 187 (by decide) _) (fun h => h)) (lm_nfC 187 (by decide) _) (fun h => h)) (lm_nfC 187 (by decide) _) (fun h => h)) (by decide) (fun h => h)) (by decide) (fun h => h)) (lm_nfC 187 (by decide) _) (fun h => h)) (lm_nfC 188 (by decide)) (fun h => h)) hL k ⟨by omega, by omega⟩) (fun v_273 σ_273 q_273 => ?_)
                        obtain ⟨rfl, V273, rfl⟩ := q_273
                        refine Wp.heq (σ' := gUr (gUp (gUp (gUp (gUp (gUp (gUp (gUp (gUp (gUr σ90 172 D90) 187 9 (SUMV σ0 (σ0 43 g) (σ0 42 g) (σ0 45 g) t l)) 187 10 (CNTV σ0 (σ0 43 g) (σ0 42 g) (σ0 45 g) t l)) 187 5 (gb (σ0 4 (σ0 42 g) = 0 ∧ DG σ0 (σ0 43 g) (σ0 45 g) t (σ0 42 g) ≤ NU σ0 l 0))) 187 7 (LEAST σ0 g t)) 187 8 (MOST σ0 g t)) 133 87 ru) 133 88 du) 187 6 (gb (BACK σ0 g t ≠ -1 ∧ BACK σ0 g t ≤ σ0 45 g + (σ0 176 (8 * l + k))))) 188 V273) gUr_same ?_
                        show Wp _ _ _ _ _ _ [gI (gb (HM σ0 l k ((gUr (gUp (gUp (gUp (gUp (gUp (gUp (gUp (gUp (gUr σ90 172 D90) 187 9 (SUMV σ0 (σ0 43 g) (σ0 42 g) (σ0 45 g) t l)) 187 10 (CNTV σ0 (σ0 43 g) (σ0 42 g) (σ0 45 g) t l)) 187 5 (gb (σ0 4 (σ0 42 g) = 0 ∧ DG σ0 (σ0 43 g) (σ0 45 g) t (σ0 42 g) ≤ NU σ0 l 0))) 187 7 (LEAST σ0 g t)) 187 8 (MOST σ0 g t)) 133 87 ru) 133 88 du) 187 6 (gb (BACK σ0 g t ≠ -1 ∧ BACK σ0 g t ≤ σ0 45 g + (σ0 176 (8 * l + k))))) 188 V) 187) ≠ 0))]
                        refine Wp.stI (y := gb (jP σ0 g t l k)) (gb_congr (Iff.of_eq (congrArg (fun x => x ≠ 0) (HM_FJ (b := bkv σ0 g t l k) hL h0 (by omega) (hvv (by omega)))))) ?_
                        show Wp _ _ _ _ _ _ [gI (gb (jP σ0 g t l k))]
                        refine v_if_neB (pc' := 279) (t := 282) dX12_judge_276 rfl rfl (fun c_276 => ?_) (fun c_276 => ?_)
                        · skip
                          refine w_aload_n (pc' := 283) (i := 0) (by rfl) (by rfl) dX12_judge_282 rfl ?_
                          refine w_iload (pc' := 285) (by rfl) dX12_judge_283 rfl ?_
                          refine v_putI (pc' := 288) (ji := 87) rfl fp_X12_522 kd_133 sf_X12_87 dX12_judge_285 rfl ?_
                          refine Wp.heq (σ' := gUr (gUp (gUp (gUp (gUp (gUp (gUp (gUp (gUp (gUr σ90 172 D90) 187 9 (SUMV σ0 (σ0 43 g) (σ0 42 g) (σ0 45 g) t l)) 187 10 (CNTV σ0 (σ0 43 g) (σ0 42 g) (σ0 45 g) t l)) 187 5 (gb (σ0 4 (σ0 42 g) = 0 ∧ DG σ0 (σ0 43 g) (σ0 45 g) t (σ0 42 g) ≤ NU σ0 l 0))) 187 7 (LEAST σ0 g t)) 187 8 (MOST σ0 g t)) 133 87 k) 133 88 du) 187 6 (gb (BACK σ0 g t ≠ -1 ∧ BACK σ0 g t ≤ σ0 45 g + (σ0 176 (8 * l + k))))) 188 V273) ((gUp_cr (by decide)).trans (congrArg (fun z => gUr z 188 V273) ((gUp_cu (by decide)).trans (congrArg (fun z => gUp z 187 6 (gb (BACK σ0 g t ≠ -1 ∧ BACK σ0 g t ≤ σ0 45 g + (σ0 176 (8 * l + k))))) ((gUp_ci (by decide)).trans (congrArg (fun z => gUp z 133 88 du) gUp_same)))))) ?_
                          refine w_aload_n (pc' := 289) (i := 0) (by rfl) (by rfl) dX12_judge_288 rfl ?_
                          refine w_iload (pc' := 291) (by rfl) dX12_judge_289 rfl ?_
                          refine v_putI (pc' := 294) (ji := 88) rfl fp_X12_525 kd_133 sf_X12_88 dX12_judge_291 rfl ?_
                          refine Wp.heq (σ' := gUr (gUp (gUp (gUp (gUp (gUp (gUp (gUp (gUp (gUr σ90 172 D90) 187 9 (SUMV σ0 (σ0 43 g) (σ0 42 g) (σ0 45 g) t l)) 187 10 (CNTV σ0 (σ0 43 g) (σ0 42 g) (σ0 45 g) t l)) 187 5 (gb (σ0 4 (σ0 42 g) = 0 ∧ DG σ0 (σ0 43 g) (σ0 45 g) t (σ0 42 g) ≤ NU σ0 l 0))) 187 7 (LEAST σ0 g t)) 187 8 (MOST σ0 g t)) 133 87 k) 133 88 ((σ0 45 g) + (σ0 176 ((8 * l) + k)))) 187 6 (gb (BACK σ0 g t ≠ -1 ∧ BACK σ0 g t ≤ σ0 45 g + (σ0 176 (8 * l + k))))) 188 V273) ((gUp_cr (by decide)).trans (congrArg (fun z => gUr z 188 V273) ((gUp_cu (by decide)).trans (congrArg (fun z => gUp z 187 6 (gb (BACK σ0 g t ≠ -1 ∧ BACK σ0 g t ≤ σ0 45 g + (σ0 176 (8 * l + k))))) gUp_same)))) ?_
                          refine v_iinc (pc' := 297) (x := k) (ls' := [gR 133, gI g, gI t, gI (σ0 45 g), gI l, gI (BACK σ0 g t), gI (k + 1), gI ((σ0 45 g) + (σ0 176 ((8 * l) + k)))]) (by omega) (by decide) (by rfl) (by rfl) dX12_judge_294 rfl ?_
                          refine w_goto (pc' := 200) dX12_judge_297 rfl ?_
                          refine Wp.lose (ls' := [gR 133, gI g, gI t, gI (σ0 45 g), gI l, gI (BACK σ0 g t), gI (k + 1), gX 1]) ⟨.inr rfl, ⟨.inr rfl, ⟨.inr rfl, ⟨.inr rfl, ⟨.inr rfl, ⟨.inr rfl, ⟨.inr rfl, ⟨.inl rfl, trivial⟩⟩⟩⟩⟩⟩⟩⟩ ?_
                          exact ih_200 _ (by omega) (k + 1) k ((σ0 45 g) + (σ0 176 ((8 * l) + k))) (gb (BACK σ0 g t ≠ -1 ∧ BACK σ0 g t ≤ σ0 45 g + (σ0 176 (8 * l + k)))) 0 V273 rfl (by omega) (by omega) (by rw [fstI_s h0, ← hru]; first | (rw [if_neg (by omega), if_pos c_276]) | (rw [if_neg (by omega), if_neg c_276]; omega)) (by first | exact hdu | (rw [if_neg (by omega)]; omega))
                        · skip
                          refine w_goto (pc' := 294) dX12_judge_279 rfl ?_
                          refine v_iinc (pc' := 297) (x := k) (ls' := [gR 133, gI g, gI t, gI (σ0 45 g), gI l, gI (BACK σ0 g t), gI (k + 1), gI ((σ0 45 g) + (σ0 176 ((8 * l) + k)))]) (by omega) (by decide) (by rfl) (by rfl) dX12_judge_294 rfl ?_
                          refine w_goto (pc' := 200) dX12_judge_297 rfl ?_
                          refine Wp.lose (ls' := [gR 133, gI g, gI t, gI (σ0 45 g), gI l, gI (BACK σ0 g t), gI (k + 1), gX 1]) ⟨.inr rfl, ⟨.inr rfl, ⟨.inr rfl, ⟨.inr rfl, ⟨.inr rfl, ⟨.inr rfl, ⟨.inr rfl, ⟨.inl rfl, trivial⟩⟩⟩⟩⟩⟩⟩⟩ ?_
                          exact ih_200 _ (by omega) (k + 1) ru du (gb (BACK σ0 g t ≠ -1 ∧ BACK σ0 g t ≤ σ0 45 g + (σ0 176 (8 * l + k)))) 0 V273 rfl (by omega) (by omega) (by rw [fstI_s h0, ← hru]; first | (rw [if_neg (by omega), if_pos c_276]) | (rw [if_neg (by omega), if_neg c_276]; omega)) (by first | exact hdu | (rw [if_neg (by omega)]; omega))
                      refine w_iload (pc' := 251) (by rfl) dX12_judge_249 rfl ?_
                      refine w_iconst (pc' := 252) (by decide) dX12_judge_251 rfl ?_
                      refine w_icmp_eq (pc' := 255) (t := 266) dX12_judge_252 rfl rfl (fun c_252 => ?_) (fun c_252 => ?_)
                      · skip
                        refine w_iconst (pc' := 267) (by decide) dX12_judge_266 rfl ?_
                        exact Wp.stI (by first | (exfalso; omega) | exact (gb_f (P := BACK σ0 g t ≠ -1 ∧ BACK σ0 g t ≤ σ0 45 g + (σ0 176 (8 * l + k))) (by omega)).symm) hj_267
                      · skip
                        refine w_iload (pc' := 257) (by rfl) dX12_judge_255 rfl ?_
                        refine w_iload (pc' := 259) (by rfl) dX12_judge_257 rfl ?_
                        refine w_icmp_gt (pc' := 262) (t := 266) dX12_judge_259 rfl rfl (fun c_259 => ?_) (fun c_259 => ?_)
                        · skip
                          refine w_iconst (pc' := 267) (by decide) dX12_judge_266 rfl ?_
                          exact Wp.stI (by first | (exfalso; omega) | exact (gb_f (P := BACK σ0 g t ≠ -1 ∧ BACK σ0 g t ≤ σ0 45 g + (σ0 176 (8 * l + k))) (by omega)).symm) hj_267
                        · skip
                          refine w_iconst (pc' := 263) (by decide) dX12_judge_262 rfl ?_
                          refine w_goto (pc' := 267) dX12_judge_263 rfl ?_
                          exact Wp.stI (by first | (exfalso; omega) | exact (gb_t (P := BACK σ0 g t ≠ -1 ∧ BACK σ0 g t ≤ σ0 45 g + (σ0 176 (8 * l + k))) (by omega)).symm) hj_267
            refine Wp.heq (σ' := gUr (gUp (gUp (gUp (gUp (gUp (gUp (gUp (gUp (gUr σ90 172 D90) 187 9 (SUMV σ0 (σ0 43 g) (σ0 42 g) (σ0 45 g) t l)) 187 10 (CNTV σ0 (σ0 43 g) (σ0 42 g) (σ0 45 g) t l)) 187 5 (gb (σ0 4 (σ0 42 g) = 0 ∧ DG σ0 (σ0 43 g) (σ0 45 g) t (σ0 42 g) ≤ NU σ0 l 0))) 187 7 (LEAST σ0 g t)) 187 8 (MOST σ0 g t)) 133 87 (-1)) 133 88 (-1)) 187 6 ((gUp (gUp (gUp (gUp (gUp (gUp (gUp (gUr σ90 172 D90) 187 9 (SUMV σ0 (σ0 43 g) (σ0 42 g) (σ0 45 g) t l)) 187 10 (CNTV σ0 (σ0 43 g) (σ0 42 g) (σ0 45 g) t l)) 187 5 (gb (σ0 4 (σ0 42 g) = 0 ∧ DG σ0 (σ0 43 g) (σ0 45 g) t (σ0 42 g) ≤ NU σ0 l 0))) 187 7 (LEAST σ0 g t)) 187 8 (MOST σ0 g t)) 133 87 (-1)) 133 88 (-1)) 187 6)) 188 ((gUp (gUp (gUp (gUp (gUp (gUp (gUp (gUr σ90 172 D90) 187 9 (SUMV σ0 (σ0 43 g) (σ0 42 g) (σ0 45 g) t l)) 187 10 (CNTV σ0 (σ0 43 g) (σ0 42 g) (σ0 45 g) t l)) 187 5 (gb (σ0 4 (σ0 42 g) = 0 ∧ DG σ0 (σ0 43 g) (σ0 45 g) t (σ0 42 g) ≤ NU σ0 l 0))) 187 7 (LEAST σ0 g t)) 187 8 (MOST σ0 g t)) 133 87 (-1)) 133 88 (-1)) 188)) (by rw [gUp_id]; exact gUr_id.symm) ?_
            exact hl_200 _ 0 (-1) (-1) ((gUp (gUp (gUp (gUp (gUp (gUp (gUp (gUr σ90 172 D90) 187 9 (SUMV σ0 (σ0 43 g) (σ0 42 g) (σ0 45 g) t l)) 187 10 (CNTV σ0 (σ0 43 g) (σ0 42 g) (σ0 45 g) t l)) 187 5 (gb (σ0 4 (σ0 42 g) = 0 ∧ DG σ0 (σ0 43 g) (σ0 45 g) t (σ0 42 g) ≤ NU σ0 l 0))) 187 7 (LEAST σ0 g t)) 187 8 (MOST σ0 g t)) 133 87 (-1)) 133 88 (-1)) 187 6) 0 ((gUp (gUp (gUp (gUp (gUp (gUp (gUp (gUr σ90 172 D90) 187 9 (SUMV σ0 (σ0 43 g) (σ0 42 g) (σ0 45 g) t l)) 187 10 (CNTV σ0 (σ0 43 g) (σ0 42 g) (σ0 45 g) t l)) 187 5 (gb (σ0 4 (σ0 42 g) = 0 ∧ DG σ0 (σ0 43 g) (σ0 45 g) t (σ0 42 g) ≤ NU σ0 l 0))) 187 7 (LEAST σ0 g t)) 187 8 (MOST σ0 g t)) 133 87 (-1)) 133 88 (-1)) 188) rfl (by omega) (by omega) (by rfl) (by rfl)
          refine w_aload_n (pc' := 99) (i := 0) (by rfl) (by rfl) dX12_judge_98 rfl ?_
          refine w_getS (pc' := 102) (q := 135) fg_X12_13 kd_133 sf_X12_4 gr_133_4 dX12_judge_99 rfl ?_
          refine w_aload_n (pc' := 103) (i := 0) (by rfl) (by rfl) dX12_judge_102 rfl ?_
          refine w_getS (pc' := 106) (q := 153) fg_X12_72 kd_133 sf_X12_27 gr_133_27 dX12_judge_103 rfl ?_
          refine w_iload_n (pc' := 107) (i := 1) (by rfl) (by rfl) dX12_judge_106 rfl ?_
          refine w_iald (pc' := 108) kd_153 (by omega) (by omega) dX12_judge_107 rfl ?_
          show Wp _ _ _ _ _ _ [gI (σ90 153 g), gR 135, gI 5, gR 187]
          rw [(hq_90).rd (k := 153) (i := g) (.inr rfl)]
          rw [hI.e153 (i := g) (by omega) (by omega)]
          refine w_iald (pc' := 109) kd_135 (by omega) (by omega) dX12_judge_108 rfl ?_
          show Wp _ _ _ _ _ _ [gI (σ90 135 (σ0 42 g)), gI 5, gR 187]
          rw [(hq_90).rd (k := 135) (i := σ0 42 g) (.inr rfl)]
          rw [hI.e135 (i := σ0 42 g) (by omega) (by omega)]
          refine w_if_ne (pc' := 112) (t := 151) dX12_judge_109 rfl rfl (fun c_109 => ?_) (fun c_109 => ?_)
          · skip
            refine w_iconst (pc' := 152) (by decide) dX12_judge_151 rfl ?_
            exact Wp.stI (by first | (exfalso; omega) | exact (gb_f (P := σ0 4 (σ0 42 g) = 0 ∧ DG σ0 (σ0 43 g) (σ0 45 g) t (σ0 42 g) ≤ NU σ0 l 0) (by omega)).symm) hj_152
          · skip
            refine w_aload_n (pc' := 113) (i := 0) (by rfl) (by rfl) dX12_judge_112 rfl ?_
            refine w_getS (pc' := 116) (q := 172) fg_X12_136 kd_133 sf_X12_53 gr_133_53 dX12_judge_113 rfl ?_
            refine w_aload_n (pc' := 117) (i := 0) (by rfl) (by rfl) dX12_judge_116 rfl ?_
            refine w_getS (pc' := 120) (q := 153) fg_X12_72 kd_133 sf_X12_27 gr_133_27 dX12_judge_117 rfl ?_
            refine w_iload_n (pc' := 121) (i := 1) (by rfl) (by rfl) dX12_judge_120 rfl ?_
            refine w_iald (pc' := 122) kd_153 (by omega) (by omega) dX12_judge_121 rfl ?_
            show Wp _ _ _ _ _ _ [gI (σ90 153 g), gR 172, gI 5, gR 187]
            rw [(hq_90).rd (k := 153) (i := g) (.inr rfl)]
            rw [hI.e153 (i := g) (by omega) (by omega)]
            refine w_iald (pc' := 123) kd_172 (by omega) (by omega) dX12_judge_122 rfl ?_
            show Wp _ _ _ _ _ _ [gI (D90 (σ0 42 g)), gI 5, gR 187]
            refine w_if_le (pc' := 126) (t := 151) dX12_judge_123 rfl rfl (fun c_123 => ?_) (fun c_123 => ?_)
            · skip
              refine w_iconst (pc' := 152) (by decide) dX12_judge_151 rfl ?_
              exact Wp.stI (by first | (exfalso; omega) | exact (gb_f (P := σ0 4 (σ0 42 g) = 0 ∧ DG σ0 (σ0 43 g) (σ0 45 g) t (σ0 42 g) ≤ NU σ0 l 0) (by omega)).symm) hj_152
            · skip
              refine w_aload_n (pc' := 127) (i := 0) (by rfl) (by rfl) dX12_judge_126 rfl ?_
              refine w_getS (pc' := 130) (q := 172) fg_X12_136 kd_133 sf_X12_53 gr_133_53 dX12_judge_127 rfl ?_
              refine w_aload_n (pc' := 131) (i := 0) (by rfl) (by rfl) dX12_judge_130 rfl ?_
              refine w_getS (pc' := 134) (q := 153) fg_X12_72 kd_133 sf_X12_27 gr_133_27 dX12_judge_131 rfl ?_
              refine w_iload_n (pc' := 135) (i := 1) (by rfl) (by rfl) dX12_judge_134 rfl ?_
              refine w_iald (pc' := 136) kd_153 (by omega) (by omega) dX12_judge_135 rfl ?_
              show Wp _ _ _ _ _ _ [gI (σ90 153 g), gR 172, gI 5, gR 187]
              rw [(hq_90).rd (k := 153) (i := g) (.inr rfl)]
              rw [hI.e153 (i := g) (by omega) (by omega)]
              refine w_iald (pc' := 137) kd_172 (by omega) (by omega) dX12_judge_136 rfl ?_
              show Wp _ _ _ _ _ _ [gI (D90 (σ0 42 g)), gI 5, gR 187]
              refine w_aload_n (pc' := 138) (i := 0) (by rfl) (by rfl) dX12_judge_137 rfl ?_
              refine w_iload (pc' := 140) (by rfl) dX12_judge_138 rfl ?_
              refine w_iconst (pc' := 141) (by decide) dX12_judge_140 rfl ?_
              refine v_callVE (pc' := 144) (st' := [gI (NU σ0 l 0), gI (D90 (σ0 42 g)), gI 5, gR 187]) (d' := 0) (av := [gI l, gI 0]) mi_mX12_numberOf lk_X12_503 rfl ci_X12 kd_133 rfl (Nat.le_of_ble_eq_true rfl) (Nat.le_of_ble_eq_true rfl) dX12_judge_141 rfl rfl (q_numberOf hI ((lm_up (k := 187) (i := 10) (v := (CNTV σ0 (σ0 43 g) (σ0 42 g) (σ0 45 g) t l)) (lm_nfC 187 (by decide) _)).trans ((lm_up (k := 187) (i := 9) (v := (SUMV σ0 (σ0 43 g) (σ0 42 g) (σ0 45 g) t l)) (lm_nfC 187 (by decide) _)).trans ((lm_ur (k := 172) (f := D90) (lm_nfC 172 (by decide))).trans hq_90.1))) l 0 (by omega) (by omega)) ?_
              refine w_icmp_gt (pc' := 147) (t := 151) dX12_judge_144 rfl rfl (fun c_144 => ?_) (fun c_144 => ?_)
              · skip
                refine w_iconst (pc' := 152) (by decide) dX12_judge_151 rfl ?_
                exact Wp.stI (by first | (exfalso; omega) | exact (gb_f (P := σ0 4 (σ0 42 g) = 0 ∧ DG σ0 (σ0 43 g) (σ0 45 g) t (σ0 42 g) ≤ NU σ0 l 0) (by omega)).symm) hj_152
              · skip
                refine w_iconst (pc' := 148) (by decide) dX12_judge_147 rfl ?_
                refine w_goto (pc' := 152) dX12_judge_148 rfl ?_
                exact Wp.stI (by first | (exfalso; omega) | exact (gb_t (P := σ0 4 (σ0 42 g) = 0 ∧ DG σ0 (σ0 43 g) (σ0 45 g) t (σ0 42 g) ≤ NU σ0 l 0) (by omega)).symm) hj_152
        refine w_if_eq (pc' := 67) (t := 71) dX12_judge_64 rfl rfl (fun c_64 => ?_) (fun c_64 => ?_)
        · skip
          refine w_iconst (pc' := 72) (by decide) dX12_judge_71 rfl ?_
          exact Wp.stI (by first | (exfalso; omega) | exact (gb_f (P := σ0 46 g ≠ 0) (by omega)).symm) hj_72
        · skip
          refine w_iconst (pc' := 68) (by decide) dX12_judge_67 rfl ?_
          refine w_goto (pc' := 72) dX12_judge_68 rfl ?_
          exact Wp.stI (by first | (exfalso; omega) | exact (gb_t (P := σ0 46 g ≠ 0) (by omega)).symm) hj_72
      · skip
        refine w_aload_n (pc' := 25) (i := 0) (by rfl) (by rfl) dX12_judge_24 rfl ?_
        refine w_getS (pc' := 28) (q := 187) fg_X12_181 kd_133 sf_X12_85 gr_133_85 dX12_judge_25 rfl ?_
        refine w_iload (pc' := 30) (by rfl) dX12_judge_28 rfl ?_
        refine w_aload_n (pc' := 31) (i := 0) (by rfl) (by rfl) dX12_judge_30 rfl ?_
        refine w_getS (pc' := 34) (q := 155) fg_X12_78 kd_133 sf_X12_29 gr_133_29 dX12_judge_31 rfl ?_
        refine w_iload_n (pc' := 35) (i := 1) (by rfl) (by rfl) dX12_judge_34 rfl ?_
        refine w_iald (pc' := 36) kd_155 (by omega) (by omega) dX12_judge_35 rfl ?_
        show Wp _ _ _ _ _ _ [gI (σ 155 g), gI i, gR 187]
        rw [(hq).rd (k := 155) (i := g) (.inr rfl)]
        rw [hI.e155 (i := g) (by omega) (by omega)]
        refine w_iload (pc' := 38) (by rfl) dX12_judge_36 rfl ?_
        refine w_icmp_ne (pc' := 41) (t := 45) dX12_judge_38 rfl rfl (fun c_38 => ?_) (fun c_38 => ?_)
        · skip
          refine w_iconst (pc' := 46) (by decide) dX12_judge_45 rfl ?_
          refine w_iast (pc' := 47) kd_187 (by omega) (by omega) dX12_judge_46 rfl ?_
          refine Wp.heq (σ' := gUr σ 187 (updI R i 0)) gUp_row ?_
          refine v_iinc (pc' := 50) (x := i) (ls' := [gR 133, gI g, gI t, gI (σ0 45 g), gI l, gI (i + 1), gX 1, gX 1]) (by omega) (by decide) (by rfl) (by rfl) dX12_judge_47 rfl ?_
          refine w_goto (pc' := 18) dX12_judge_50 rfl ?_
          exact ih_18 _ (by omega) (i + 1) (updI R i 0) rfl (by omega) (by omega) (by intro p a b; by_cases e : p = i; (rw [e, updI_eq]; first | (rw [if_pos (by omega)]) | (rw [if_neg (by omega)])); (rw [updI_ne e]; exact hR p a (by omega)))
        · skip
          refine w_iconst (pc' := 42) (by decide) dX12_judge_41 rfl ?_
          refine w_goto (pc' := 46) dX12_judge_42 rfl ?_
          refine w_iast (pc' := 47) kd_187 (by omega) (by omega) dX12_judge_46 rfl ?_
          refine Wp.heq (σ' := gUr σ 187 (updI R i 1)) gUp_row ?_
          refine v_iinc (pc' := 50) (x := i) (ls' := [gR 133, gI g, gI t, gI (σ0 45 g), gI l, gI (i + 1), gX 1, gX 1]) (by omega) (by decide) (by rfl) (by rfl) dX12_judge_47 rfl ?_
          refine w_goto (pc' := 18) dX12_judge_50 rfl ?_
          exact ih_18 _ (by omega) (i + 1) (updI R i 1) rfl (by omega) (by omega) (by intro p a b; by_cases e : p = i; (rw [e, updI_eq]; first | (rw [if_pos (by omega)]) | (rw [if_neg (by omega)])); (rw [updI_ne e]; exact hR p a (by omega)))
  refine Wp.heq (σ' := gUr σ 187 (σ 187)) gUr_id.symm ?_
  exact hl_18 _ 0 (σ 187) rfl (by omega) (by omega) (by intro p a b; omega)
