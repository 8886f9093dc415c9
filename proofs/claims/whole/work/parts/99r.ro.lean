/-! the reference reads a ONE (gen/mod_ro.py) -/
set_option maxHeartbeats 4000000 in
theorem mr_readOne {T : Int → Int} {L : Int} {σ0 S0 S σ : gH} (I0 : INV L S0) (hR : RCH T L S0 S) (hf : ¬ FIN S) (eT : T = σ0 134) (hLL : L ≤ 540) (h4 : S 57 6 = 4) (R : RLC L σ0 S σ) {a q k v : Int} (hT : TKS T L (S 66 4) a q k v σ) (tl : Int) (htl : tl = 0 ∨ tl = 1) (htt : S 57 11 ≠ 0 ↔ tl = 1) : Mt mX12_readOne 3 [gR 133, gI tl] σ (fun w σ' => (w = gI 1 ∧ ROK T L σ0 S0 S σ') ∨ (w = gI 0 ∧ BADE T L σ0 S0 σ')) := by
  refine Mt.walk (ls := [gR 133, gI tl, gX 1, gX 1, gX 1, gX 1]) pn_X12 rfl (fun _ _ h => by rcases h with h | h <;> cases h.1) (Nat.le_of_ble_eq_true rfl) rfl ?_
  have f0 : S 57 3 = 0 := Classical.not_not.mp fun c => hf (Or.inl c)
  have I : INVb L S := (hR.inv I0) f0
  have hB := R.bnd I (by omega) hLL
  have hato : ∀ _ : Unit, _ := fun _ => ATO_in (w := wdO k v) htl htt
  have hL54 : σ 133 54 = L := R.1.2.1
  have tin := TOKN_in I.1.2.2.2 hT.1
  have hq : 0 ≤ q ∧ q ≤ L := ⟨tin.1, tin.2.1⟩
  clear tin
  have hto : ∀ _ : Unit, k ≠ 0 → σ 133 55 = q := fun _ => hT.rest.2.2.2
  have h82 : σ 133 82 = S 57 13 := R.1.2.2.1
  have h83 : σ 133 83 = S 68 15 := R.1.2.2.2.1
  have h80 : σ 133 80 = S 57 14 - 1 := R.2.1.2.1
  have hw14 : ∀ _ : Unit, wdO k v = 14 → k = 2 := fun _ => wdO_k (by decide)
  have e134 : σ 134 = T := by rw [eT]; exact funext fun i => R.1.1 134 i rfl
  clear htt
  refine w_aload_n (pc' := 1) (i := 0) (by rfl) (by rfl) dX12_readOne_0 rfl ?_
  refine w_iload_n (pc' := 2) (i := 1) (by rfl) (by rfl) dX12_readOne_1 rfl ?_
  refine v_callVE (pc' := 5) (st' := [gI (ATO tl (wdO k v))]) (d' := 1) (av := [gI tl]) mi_mX12_atomAtHand lk_X12_447 rfl ci_X12 kd_133 rfl (Nat.le_of_ble_eq_true rfl) (Nat.le_of_ble_eq_true rfl) dX12_readOne_2 rfl rfl (mg_atom hT tl htl) ?_
  refine w_istore_n (pc' := 6) (i := 2) (ls' := [gR 133, gI tl, gI (ATO tl (wdO k v)), gX 1, gX 1, gX 1]) (by rfl) (by decide) (by rfl) dX12_readOne_5 rfl ?_
  refine w_aload_n (pc' := 7) (i := 0) (by rfl) (by rfl) dX12_readOne_6 rfl ?_
  refine w_bipush (pc' := 9) (by decide) (by decide) dX12_readOne_7 rfl ?_
  refine w_bipush (pc' := 11) (by decide) (by decide) dX12_readOne_9 rfl ?_
  refine w_bipush (pc' := 13) (by decide) (by decide) dX12_readOne_11 rfl ?_
  refine w_iconst (pc' := 14) (by decide) dX12_readOne_13 rfl ?_
  refine w_iconst (pc' := 15) (by decide) dX12_readOne_14 rfl ?_
  refine w_iconst (pc' := 16) (by decide) dX12_readOne_15 rfl ?_
  refine v_callSE (pc' := 19) (st' := [gJ 10631, gR 133]) (d' := 0) (av := [gI 110, gI 111, gI 116, gI 0, gI 0, gI 0]) ms_mX12_spelt st_mX12_spelt lk_X12_412 rfl rfl (Nat.le_of_ble_eq_true rfl) (Nat.le_of_ble_eq_true rfl) dX12_readOne_16 rfl rfl (mg_speltE (σ := σ) (n := 10631) 110 111 116 0 0 0 (by decide)) ?_
  refine v_callVE (pc' := 22) (st' := [gI (gb (wdO k v = 14))]) (d' := 0) (av := [gJ 10631]) mi_mX12_isKey lk_X12_416 rfl ci_X12 kd_133 rfl (Nat.le_of_ble_eq_true rfl) (Nat.le_of_ble_eq_true rfl) dX12_readOne_19 rfl rfl (mg_isKeyE (σ := σ) (P := wdO k v = 14) (10631) (by rw [show (10631 : Int) = 10631 by decide]; exact TKS.key hT kwc_14 (by decide) (by decide) (by decide))) ?_
  refine w_istore_n (pc' := 23) (i := 3) (ls' := [gR 133, gI tl, gI (ATO tl (wdO k v)), gI (gb (wdO k v = 14)), gX 1, gX 1]) (by rfl) (by decide) (by rfl) dX12_readOne_22 rfl ?_
  refine w_aload_n (pc' := 24) (i := 0) (by rfl) (by rfl) dX12_readOne_23 rfl ?_
  refine w_bipush (pc' := 26) (by decide) (by decide) dX12_readOne_24 rfl ?_
  refine v_callVE (pc' := 29) (st' := [gI (gb (k = 40))]) (d' := 0) (av := [gI 40]) mi_mX12_isSign lk_X12_451 rfl ci_X12 kd_133 rfl (Nat.le_of_ble_eq_true rfl) (Nat.le_of_ble_eq_true rfl) dX12_readOne_26 rfl rfl (mg_isSignE (σ := σ) (P := k = 40) 40 (TKS.sign hT (by decide))) ?_
  refine w_istore (pc' := 31) (ls' := [gR 133, gI tl, gI (ATO tl (wdO k v)), gI (gb (wdO k v = 14)), gI (gb (k = 40)), gX 1]) (by decide) (by rfl) dX12_readOne_29 rfl ?_
  have hj_51 : (¬ (¬ (k = 40 ∨ wdO k v = 14) ∧ ¬ atmK (S 57 11) (wdO k v))) → Wp mX12_readOne 3 (fun w σ' => (w = gI 1 ∧ ROK T L σ0 S0 S σ') ∨ (w = gI 0 ∧ BADE T L σ0 S0 σ')) σ 51 [gR 133, gI tl, gI (ATO tl (wdO k v)), gI (gb (wdO k v = 14)), gI (gb (k = 40)), gX 1] [] := by
    intro hj31
    refine w_aload_n (pc' := 52) (i := 0) (by rfl) (by rfl) dX12_readOne_51 rfl ?_
    refine v_getI (pc' := 55) (ji := 82) rfl fg_X12_454 kd_133 dX12_readOne_52 rfl ?_
    refine w_bipush (pc' := 57) (by decide) (by decide) dX12_readOne_55 rfl ?_
    refine w_icmp_eq (pc' := 60) (t := 69) dX12_readOne_57 rfl rfl (fun c_57 => ?_) (fun c_57 => ?_)
    · skip
      refine w_aload_n (pc' := 70) (i := 0) (by rfl) (by rfl) dX12_readOne_69 rfl ?_
      refine w_iconst (pc' := 71) (by decide) dX12_readOne_70 rfl ?_
      refine w_callV (pc' := 74) (d' := 0) (av := [gI 4]) mi_mX12_bad lk_X12_409 rfl ci_X12 kd_133 rfl (Nat.le_of_ble_eq_true rfl) (Nat.le_of_ble_eq_true rfl) dX12_readOne_71 rfl (mg_bad (σ := σ) 4) (fun v_71 σ_71 q_71 => ?_)
      obtain ⟨rfl, y_71, rfl, hy_71⟩ := q_71
      refine Wp.heq (σ' := gUp (gUp σ 133 60 y_71) 133 61 (σ 133 56)) ((congrArg (fun z => gUp z 133 61 (σ 133 56)) rfl).trans rfl) ?_
      show Wp _ _ _ _ _ _ [gI 0]
      refine w_zreturn rfl (.inl rfl) dX12_readOne_74 ?_
      exact Or.inr ⟨rfl, BADE_mk hR hf hT R.1.1 (f := 4) (by rw [TAK_4 (M := ADV S a q k v) h4]; unfold LTO; rw [if_neg (show ¬ (¬ (k = 40 ∨ wdO k v = 14) ∧ ¬ atmK ((ADV S a q k v) 57 11) (wdO k v)) from hj31), if_pos (show 60 ≤ (ADV S a q k v) 57 13 ∨ 20 < (ADV S a q k v) 57 14 from (by omega : 60 ≤ S 57 13 ∨ 20 < S 57 14))]) (by decide) (Or.inr (kk_of hj31)) hy_71 rfl⟩
    · skip
      refine w_aload_n (pc' := 61) (i := 0) (by rfl) (by rfl) dX12_readOne_60 rfl ?_
      refine v_getI (pc' := 64) (ji := 80) rfl fg_X12_438 kd_133 dX12_readOne_61 rfl ?_
      refine w_bipush (pc' := 66) (by decide) (by decide) dX12_readOne_64 rfl ?_
      refine w_icmp_lt (pc' := 69) (t := 75) dX12_readOne_66 rfl rfl (fun c_66 => ?_) (fun c_66 => ?_)
      · skip
        have hkk := kk_of hj31
        have ht55 : σ 133 55 = q := hto () hkk.1
        have h1 : S 57 13 < 60 := by omega
        have h2 : S 57 14 ≤ 20 := by omega
        refine w_aload_n (pc' := 76) (i := 0) (by rfl) (by rfl) dX12_readOne_75 rfl ?_
        refine w_dup (pc' := 77) dX12_readOne_76 rfl ?_
        refine v_getI (pc' := 80) (ji := 82) rfl fg_X12_454 kd_133 dX12_readOne_77 rfl ?_
        refine w_iconst (pc' := 81) (by decide) dX12_readOne_80 rfl ?_
        refine v_iadd (pc' := 82) (by omega) dX12_readOne_81 rfl ?_
        refine v_putI (pc' := 85) (ji := 82) rfl fp_X12_454 kd_133 sf_X12_82 dX12_readOne_82 rfl ?_
        refine w_iload_n (pc' := 86) (i := 3) (by rfl) (by rfl) dX12_readOne_85 rfl ?_
        refine v_if_neB (pc' := 89) (t := 94) dX12_readOne_86 rfl rfl (fun c_86 => ?_) (fun c_86 => ?_)
        · skip
          refine w_aload_n (pc' := 95) (i := 0) (by rfl) (by rfl) dX12_readOne_94 rfl ?_
          refine w_iload_n (pc' := 96) (i := 3) (by rfl) (by rfl) dX12_readOne_95 rfl ?_
          refine v_if_eqB (pc' := 99) (t := 104) dX12_readOne_96 rfl rfl (fun c_96 => ?_) (fun c_96 => ?_)
          · skip
            refine w_bipush (pc' := 106) (by decide) (by decide) dX12_readOne_104 rfl ?_
            refine w_callV (pc' := 109) (d' := 2) (av := [gI 23]) mi_mX12_push lk_X12_457 rfl ci_X12 kd_133 rfl (Nat.le_of_ble_eq_true rfl) (Nat.le_of_ble_eq_true rfl) dX12_readOne_106 rfl (mp_push (σ := gUp σ 133 82 ((σ 133 82) + 1)) (show σ 133 54 ≤ 540 by omega) (show 0 ≤ σ 133 55 ∧ σ 133 55 ≤ σ 133 54 by omega) 23 (by omega) (show 0 ≤ σ 133 79 ∧ σ 133 79 < 140 by omega) (show 0 ≤ σ 133 80 ∧ σ 133 80 < 140 by omega) (show 0 ≤ σ 133 81 ∧ σ 133 81 < 140 by omega)) (fun v_106 σ106 q_106 => ?_)
            obtain ⟨rfl, hk_106, ht_106⟩ := q_106
            show Wp _ _ _ _ _ _ []
            refine w_iconst (pc' := 110) (by decide) dX12_readOne_109 rfl ?_
            refine w_zreturn rfl (.inr rfl) dX12_readOne_110 ?_
            exact Or.inl ⟨rfl, RO_nest hR hf I h4 hT R (by omega) h1 h2 (by have := hw14 (); split <;> omega) rfl hk_106 (ht_106.tr e134 hL54 ht55)⟩
          · skip
            refine w_bipush (pc' := 101) (by decide) (by decide) dX12_readOne_99 rfl ?_
            refine w_goto (pc' := 106) dX12_readOne_101 rfl ?_
            refine w_callV (pc' := 109) (d' := 2) (av := [gI 20]) mi_mX12_push lk_X12_457 rfl ci_X12 kd_133 rfl (Nat.le_of_ble_eq_true rfl) (Nat.le_of_ble_eq_true rfl) dX12_readOne_106 rfl (mp_push (σ := gUp σ 133 82 ((σ 133 82) + 1)) (show σ 133 54 ≤ 540 by omega) (show 0 ≤ σ 133 55 ∧ σ 133 55 ≤ σ 133 54 by omega) 20 (by omega) (show 0 ≤ σ 133 79 ∧ σ 133 79 < 140 by omega) (show 0 ≤ σ 133 80 ∧ σ 133 80 < 140 by omega) (show 0 ≤ σ 133 81 ∧ σ 133 81 < 140 by omega)) (fun v_106 σ106 q_106 => ?_)
            obtain ⟨rfl, hk_106, ht_106⟩ := q_106
            show Wp _ _ _ _ _ _ []
            refine w_iconst (pc' := 110) (by decide) dX12_readOne_109 rfl ?_
            refine w_zreturn rfl (.inr rfl) dX12_readOne_110 ?_
            exact Or.inl ⟨rfl, RO_nest hR hf I h4 hT R (by omega) h1 h2 (by have := hw14 (); split <;> omega) rfl hk_106 (ht_106.tr e134 hL54 ht55)⟩
        · skip
          refine w_iload (pc' := 91) (by rfl) dX12_readOne_89 rfl ?_
          refine v_if_eqB (pc' := 94) (t := 111) dX12_readOne_91 rfl rfl (fun c_91 => ?_) (fun c_91 => ?_)
          · skip
            have hn : ¬ (k = 40 ∨ wdO k v = 14) := by omega
            have hat : atmK (S 57 11) (wdO k v) := Classical.not_not.mp fun z => hj31 ⟨hn, z⟩
            have hy : ATO tl (wdO k v) = rnM (wdO k v) := ((hato ()).2 hat).1
            have hme : isMeM (ATO tl (wdO k v)) ↔ isMeas (wdO k v) := ((hato ()).2 hat).2
            refine w_aload_n (pc' := 112) (i := 0) (by rfl) (by rfl) dX12_readOne_111 rfl ?_
            refine w_callV (pc' := 115) (d' := 1) (av := []) mi_mX12_go lk_X12_444 rfl ci_X12 kd_133 rfl (Nat.le_of_ble_eq_true rfl) (Nat.le_of_ble_eq_true rfl) dX12_readOne_112 rfl (mg_go (σ := gUp σ 133 82 ((σ 133 82) + 1)) (show σ 133 54 ≤ 540 by omega) (show 0 ≤ σ 133 55 ∧ σ 133 55 ≤ σ 133 54 by omega)) (fun v_112 σ112 q_112 => ?_)
            obtain ⟨rfl, hk_112, ht_112⟩ := q_112
            show Wp _ _ _ _ _ _ []
            have e54_112 : σ112 133 54 = σ 133 54 := hk_112.rd rfl
            have e79_112 : σ112 133 79 = σ 133 79 := hk_112.rd rfl
            have e80_112 : σ112 133 80 = σ 133 80 := hk_112.rd rfl
            have e81_112 : σ112 133 81 = σ 133 81 := hk_112.rd rfl
            have e82_112 : σ112 133 82 = σ 133 82 + 1 := hk_112.rd rfl
            have e83_112 : σ112 133 83 = σ 133 83 := hk_112.rd rfl
            have e134_112 : σ112 134 = T := (hk_112.row (k := 134) (by decide)).trans e134
            have hm112 : MTK T L q σ112 := ht_112.tr e134 hL54 ht55
            obtain ⟨a2, q2, k2, v2, hT2⟩ := hm112.of
            have hq2 : 0 ≤ q2 ∧ q2 ≤ L := ⟨(TOKN_in hq hT2.1).1, (TOKN_in hq hT2.1).2.1⟩
            have e54L : σ112 133 54 = L := e54_112.trans hL54
            have hto2 : ∀ _ : Unit, k2 ≠ 0 → σ112 133 55 = q2 := fun _ => hT2.rest.2.2.2
            refine w_sipush (pc' := 118) (by decide) (by decide) dX12_readOne_115 rfl ?_
            refine w_aload_n (pc' := 119) (i := 0) (by rfl) (by rfl) dX12_readOne_118 rfl ?_
            refine v_getI (pc' := 122) (ji := 83) rfl fg_X12_426 kd_133 dX12_readOne_119 rfl ?_
            rw [(hk_112).rd (k := 133) (i := 83) rfl]
            show Wp _ _ _ _ _ _ [gI (σ 133 83), gI 1200]
            refine v_iadd (pc' := 123) (by omega) dX12_readOne_122 rfl ?_
            refine w_istore (pc' := 125) (ls' := [gR 133, gI tl, gI (ATO tl (wdO k v)), gI (gb (wdO k v = 14)), gI (gb (k = 40)), gI (1200 + (σ 133 83))]) (by decide) (by rfl) dX12_readOne_123 rfl ?_
            refine w_iload_n (pc' := 126) (i := 2) (by rfl) (by rfl) dX12_readOne_125 rfl ?_
            refine v_callSE (pc' := 129) (st' := [gI (gb (isMeM (ATO tl (wdO k v))))]) (d' := 0) (av := [gI (ATO tl (wdO k v))]) ms_mX12_isMeasured st_mX12_isMeasured lk_X12_460 rfl rfl (Nat.le_of_ble_eq_true rfl) (Nat.le_of_ble_eq_true rfl) dX12_readOne_126 rfl rfl (q_isMeasured σ112 (ATO tl (wdO k v))) ?_
            refine v_if_eqB (pc' := 132) (t := 209) dX12_readOne_129 rfl rfl (fun c_129 => ?_) (fun c_129 => ?_)
            · skip
              
              refine w_aload_n (pc' := 210) (i := 0) (by rfl) (by rfl) dX12_readOne_209 rfl ?_
              refine w_iload_n (pc' := 211) (i := 2) (by rfl) (by rfl) dX12_readOne_210 rfl ?_
              refine w_callV (pc' := 214) (d' := 0) (av := [gI (ATO tl (wdO k v))]) mi_mX12_emit lk_X12_432 rfl ci_X12 kd_133 rfl (Nat.le_of_ble_eq_true rfl) (Nat.le_of_ble_eq_true rfl) dX12_readOne_211 rfl (mp_emit (σ := σ112) (ATO tl (wdO k v)) (show 0 ≤ σ112 133 83 ∧ σ112 133 83 < 200 by omega)) (fun v_211 σ_211 q_211 => ?_)
              obtain ⟨rfl, rfl⟩ := q_211
              show Wp _ _ _ _ _ _ []
              refine w_aload_n (pc' := 215) (i := 0) (by rfl) (by rfl) dX12_readOne_214 rfl ?_
              refine w_callV (pc' := 218) (d' := 2) (av := []) mi_mX12_turnNots lk_X12_463 rfl ci_X12 kd_133 rfl (Nat.le_of_ble_eq_true rfl) (Nat.le_of_ble_eq_true rfl) dX12_readOne_215 rfl (mp_turnNots (σ := gUp (gUp σ112 180 (1200 + (σ112 133 83)) (ATO tl (wdO k v))) 133 83 ((σ112 133 83) + 1)) (show 0 ≤ σ112 133 79 ∧ σ112 133 79 ≤ 140 by omega) (show 0 ≤ (σ112 133 83) + 1 ∧ (σ112 133 83) + 1 + σ112 133 79 ≤ 200 by omega) (show -1000 ≤ σ112 133 80 ∧ σ112 133 80 ≤ 1000 by omega)) (fun v_215 σ_215 q_215 => ?_)
              obtain ⟨m_215, rfl, hN_215, rfl⟩ := q_215
              show Wp _ _ _ _ _ _ []
              refine w_iconst (pc' := 219) (by decide) dX12_readOne_218 rfl ?_
              refine w_zreturn rfl (.inr rfl) dX12_readOne_219 ?_
              exact Or.inl ⟨rfl, RO_atom hR hf I h4 hT R hn hat h1 h2 (fun c => absurd (hme.mpr c) (by omega)) hy rfl hk_112 hm112 hN_215⟩
            · skip
              obtain ⟨S5, r1, r2, r3, r4, r5, r6, r7⟩ := RO_m5 hR hf I h4 hT R hn hat h1 h2 (hme.mp (by omega)) rfl hk_112
              refine w_aload_n (pc' := 133) (i := 0) (by rfl) (by rfl) dX12_readOne_132 rfl ?_
              refine w_bipush (pc' := 135) (by decide) (by decide) dX12_readOne_133 rfl ?_
              have hj_165 : (k2 = 60 ∨ k2 = 61 ∨ k2 = 62) → Wp mX12_readOne 3 (fun w σ' => (w = gI 1 ∧ ROK T L σ0 S0 S σ') ∨ (w = gI 0 ∧ BADE T L σ0 S0 σ')) σ112 165 [gR 133, gI tl, gI (ATO tl (wdO k v)), gI (gb (wdO k v = 14)), gI (gb (k = 40)), gI (1200 + (σ 133 83))] [] := by
                intro hj135
                have ht55b : σ112 133 55 = q2 := hto2 () (by omega)
                refine w_aload_n (pc' := 166) (i := 0) (by rfl) (by rfl) dX12_readOne_165 rfl ?_
                refine w_getS (pc' := 169) (q := 181) fg_X12_163 kd_133 sf_X12_72 gr_133_72 dX12_readOne_166 rfl ?_
                refine w_iload (pc' := 171) (by rfl) dX12_readOne_169 rfl ?_
                refine w_aload_n (pc' := 172) (i := 0) (by rfl) (by rfl) dX12_readOne_171 rfl ?_
                refine v_getI (pc' := 175) (ji := 59) rfl fg_X12_391 kd_133 dX12_readOne_172 rfl ?_
                refine w_iast (pc' := 176) kd_181 (by omega) (by omega) dX12_readOne_175 rfl ?_
                refine w_aload_n (pc' := 177) (i := 0) (by rfl) (by rfl) dX12_readOne_176 rfl ?_
                refine w_callV (pc' := 180) (d' := 1) (av := []) mi_mX12_go lk_X12_444 rfl ci_X12 kd_133 rfl (Nat.le_of_ble_eq_true rfl) (Nat.le_of_ble_eq_true rfl) dX12_readOne_177 rfl (mg_go (σ := gUp σ112 181 (1200 + (σ 133 83)) (σ112 133 59)) (show σ112 133 54 ≤ 540 by omega) (show 0 ≤ σ112 133 55 ∧ σ112 133 55 ≤ σ112 133 54 by omega)) (fun v_177 σ177 q_177 => ?_)
                obtain ⟨rfl, hk_177, ht_177⟩ := q_177
                show Wp _ _ _ _ _ _ []
                have e54_177 : σ177 133 54 = σ112 133 54 := hk_177.rd rfl
                have e79_177 : σ177 133 79 = σ112 133 79 := hk_177.rd rfl
                have e80_177 : σ177 133 80 = σ112 133 80 := hk_177.rd rfl
                have e81_177 : σ177 133 81 = σ112 133 81 := hk_177.rd rfl
                have e82_177 : σ177 133 82 = σ112 133 82 := hk_177.rd rfl
                have e83_177 : σ177 133 83 = σ112 133 83 := hk_177.rd rfl
                have e134_177 : σ177 134 = T := (hk_177.row (k := 134) (by decide)).trans e134_112
                have hm177 : MTK T L q2 σ177 := ht_177.tr e134_112 e54L ht55b
                obtain ⟨a3, q3, k3, v3, hT3⟩ := hm177.of
                have hq3 : 0 ≤ q3 ∧ q3 ≤ L := ⟨(TOKN_in hq2 hT3.1).1, (TOKN_in hq2 hT3.1).2.1⟩
                have e54M : σ177 133 54 = L := e54_177.trans e54L
                have hto3 : ∀ _ : Unit, k3 ≠ 0 → σ177 133 55 = q3 := fun _ => hT3.rest.2.2.2
                have hnum : σ177 133 57 = 3 ↔ k3 = 3 := hT3.num.1
                obtain ⟨S6, s1, s2, s3, s4, s5, s6, s7, s8, s9⟩ := RO_m6 I0 r1 r2 r3 r4 hT2 r5 hj135 r7 (by rw [← h83]; exact hk_177) rfl
                refine w_aload_n (pc' := 181) (i := 0) (by rfl) (by rfl) dX12_readOne_180 rfl ?_
                refine v_getI (pc' := 184) (ji := 57) rfl fg_X12_385 kd_133 dX12_readOne_181 rfl ?_
                refine w_iconst (pc' := 185) (by decide) dX12_readOne_184 rfl ?_
                refine w_icmp_eq (pc' := 188) (t := 194) dX12_readOne_185 rfl rfl (fun c_185 => ?_) (fun c_185 => ?_)
                · skip
                  have hk33 : k3 = 3 := by omega
                  have ht55c : σ177 133 55 = q3 := hto3 () (by omega)
                  refine w_aload_n (pc' := 195) (i := 0) (by rfl) (by rfl) dX12_readOne_194 rfl ?_
                  refine w_getS (pc' := 198) (q := 182) fg_X12_166 kd_133 sf_X12_73 gr_133_73 dX12_readOne_195 rfl ?_
                  refine w_iload (pc' := 200) (by rfl) dX12_readOne_198 rfl ?_
                  refine w_aload_n (pc' := 201) (i := 0) (by rfl) (by rfl) dX12_readOne_200 rfl ?_
                  refine v_getI (pc' := 204) (ji := 58) rfl fg_X12_397 kd_133 dX12_readOne_201 rfl ?_
                  refine w_iast (pc' := 205) kd_182 (by omega) (by omega) dX12_readOne_204 rfl ?_
                  refine w_aload_n (pc' := 206) (i := 0) (by rfl) (by rfl) dX12_readOne_205 rfl ?_
                  refine w_callV (pc' := 209) (d' := 1) (av := []) mi_mX12_go lk_X12_444 rfl ci_X12 kd_133 rfl (Nat.le_of_ble_eq_true rfl) (Nat.le_of_ble_eq_true rfl) dX12_readOne_206 rfl (mg_go (σ := gUp σ177 182 (1200 + (σ 133 83)) (σ177 133 58)) (show σ177 133 54 ≤ 540 by omega) (show 0 ≤ σ177 133 55 ∧ σ177 133 55 ≤ σ177 133 54 by omega)) (fun v_206 σ206 q_206 => ?_)
                  obtain ⟨rfl, hk_206, ht_206⟩ := q_206
                  show Wp _ _ _ _ _ _ []
                  have e54_206 : σ206 133 54 = σ177 133 54 := hk_206.rd rfl
                  have e79_206 : σ206 133 79 = σ177 133 79 := hk_206.rd rfl
                  have e80_206 : σ206 133 80 = σ177 133 80 := hk_206.rd rfl
                  have e81_206 : σ206 133 81 = σ177 133 81 := hk_206.rd rfl
                  have e82_206 : σ206 133 82 = σ177 133 82 := hk_206.rd rfl
                  have e83_206 : σ206 133 83 = σ177 133 83 := hk_206.rd rfl
                  have e134_206 : σ206 134 = T := (hk_206.row (k := 134) (by decide)).trans e134_177
                  have hm206 : MTK T L q3 σ206 := ht_206.tr e134_177 e54M ht55c
                  refine w_aload_n (pc' := 210) (i := 0) (by rfl) (by rfl) dX12_readOne_209 rfl ?_
                  refine w_iload_n (pc' := 211) (i := 2) (by rfl) (by rfl) dX12_readOne_210 rfl ?_
                  refine w_callV (pc' := 214) (d' := 0) (av := [gI (ATO tl (wdO k v))]) mi_mX12_emit lk_X12_432 rfl ci_X12 kd_133 rfl (Nat.le_of_ble_eq_true rfl) (Nat.le_of_ble_eq_true rfl) dX12_readOne_211 rfl (mp_emit (σ := σ206) (ATO tl (wdO k v)) (show 0 ≤ σ206 133 83 ∧ σ206 133 83 < 200 by omega)) (fun v_211 σ_211 q_211 => ?_)
                  obtain ⟨rfl, rfl⟩ := q_211
                  show Wp _ _ _ _ _ _ []
                  refine w_aload_n (pc' := 215) (i := 0) (by rfl) (by rfl) dX12_readOne_214 rfl ?_
                  refine w_callV (pc' := 218) (d' := 2) (av := []) mi_mX12_turnNots lk_X12_463 rfl ci_X12 kd_133 rfl (Nat.le_of_ble_eq_true rfl) (Nat.le_of_ble_eq_true rfl) dX12_readOne_215 rfl (mp_turnNots (σ := gUp (gUp σ206 180 (1200 + (σ206 133 83)) (ATO tl (wdO k v))) 133 83 ((σ206 133 83) + 1)) (show 0 ≤ σ206 133 79 ∧ σ206 133 79 ≤ 140 by omega) (show 0 ≤ (σ206 133 83) + 1 ∧ (σ206 133 83) + 1 + σ206 133 79 ≤ 200 by omega) (show -1000 ≤ σ206 133 80 ∧ σ206 133 80 ≤ 1000 by omega)) (fun v_215 σ_215 q_215 => ?_)
                  obtain ⟨m_215, rfl, hN_215, rfl⟩ := q_215
                  show Wp _ _ _ _ _ _ []
                  refine w_iconst (pc' := 219) (by decide) dX12_readOne_218 rfl ?_
                  refine w_zreturn rfl (.inr rfl) dX12_readOne_219 ?_
                  exact Or.inl ⟨rfl, RO_m7 I0 s1 s2 s3 s4 hT3 s5 (s6.trans r6) (s8.trans s7.symm) s9 hk33 hy (by rw [← h83]; exact hk_206) rfl hm206 hN_215⟩
                · skip
                  refine w_aload_n (pc' := 189) (i := 0) (by rfl) (by rfl) dX12_readOne_188 rfl ?_
                  refine w_iconst (pc' := 190) (by decide) dX12_readOne_189 rfl ?_
                  refine w_callV (pc' := 193) (d' := 0) (av := [gI 1]) mi_mX12_bad lk_X12_409 rfl ci_X12 kd_133 rfl (Nat.le_of_ble_eq_true rfl) (Nat.le_of_ble_eq_true rfl) dX12_readOne_190 rfl (mg_bad (σ := σ177) 1) (fun v_190 σ_190 q_190 => ?_)
                  obtain ⟨rfl, y_190, rfl, hy_190⟩ := q_190
                  refine Wp.heq (σ' := gUp (gUp σ177 133 60 y_190) 133 61 (σ177 133 56)) ((congrArg (fun z => gUp z 133 61 (σ177 133 56)) rfl).trans rfl) ?_
                  show Wp _ _ _ _ _ _ [gI 0]
                  refine w_zreturn rfl (.inl rfl) dX12_readOne_193 ?_
                  exact Or.inr ⟨rfl, BADE_mk s1 s2 (by rw [s4]; exact hT3) s5.1.1 (f := 1) (by rw [TAK_6 (M := ADV S6 a3 q3 k3 v3) s3, if_pos (show k3 ≠ 3 by omega)]) (by decide) (Or.inl rfl) hy_190 rfl⟩
              refine v_callVE (pc' := 138) (st' := [gI (gb (k2 = 60))]) (d' := 0) (av := [gI 60]) mi_mX12_isSign lk_X12_451 rfl ci_X12 kd_133 rfl (Nat.le_of_ble_eq_true rfl) (Nat.le_of_ble_eq_true rfl) dX12_readOne_135 rfl rfl (mg_isSignE (σ := σ112) (P := k2 = 60) 60 (TKS.sign hT2 (by decide))) ?_
              refine v_if_neB (pc' := 141) (t := 165) dX12_readOne_138 rfl rfl (fun c_138 => ?_) (fun c_138 => ?_)
              · skip
                exact hj_165 (by omega)
              · skip
                refine w_aload_n (pc' := 142) (i := 0) (by rfl) (by rfl) dX12_readOne_141 rfl ?_
                refine w_bipush (pc' := 144) (by decide) (by decide) dX12_readOne_142 rfl ?_
                refine v_callVE (pc' := 147) (st' := [gI (gb (k2 = 61))]) (d' := 0) (av := [gI 61]) mi_mX12_isSign lk_X12_451 rfl ci_X12 kd_133 rfl (Nat.le_of_ble_eq_true rfl) (Nat.le_of_ble_eq_true rfl) dX12_readOne_144 rfl rfl (mg_isSignE (σ := σ112) (P := k2 = 61) 61 (TKS.sign hT2 (by decide))) ?_
                refine v_if_neB (pc' := 150) (t := 165) dX12_readOne_147 rfl rfl (fun c_147 => ?_) (fun c_147 => ?_)
                · skip
                  exact hj_165 (by omega)
                · skip
                  refine w_aload_n (pc' := 151) (i := 0) (by rfl) (by rfl) dX12_readOne_150 rfl ?_
                  refine w_bipush (pc' := 153) (by decide) (by decide) dX12_readOne_151 rfl ?_
                  refine v_callVE (pc' := 156) (st' := [gI (gb (k2 = 62))]) (d' := 0) (av := [gI 62]) mi_mX12_isSign lk_X12_451 rfl ci_X12 kd_133 rfl (Nat.le_of_ble_eq_true rfl) (Nat.le_of_ble_eq_true rfl) dX12_readOne_153 rfl rfl (mg_isSignE (σ := σ112) (P := k2 = 62) 62 (TKS.sign hT2 (by decide))) ?_
                  refine v_if_neB (pc' := 159) (t := 165) dX12_readOne_156 rfl rfl (fun c_156 => ?_) (fun c_156 => ?_)
                  · skip
                    exact hj_165 (by omega)
                  · skip
                    refine w_aload_n (pc' := 160) (i := 0) (by rfl) (by rfl) dX12_readOne_159 rfl ?_
                    refine w_iconst (pc' := 161) (by decide) dX12_readOne_160 rfl ?_
                    refine w_callV (pc' := 164) (d' := 0) (av := [gI 1]) mi_mX12_bad lk_X12_409 rfl ci_X12 kd_133 rfl (Nat.le_of_ble_eq_true rfl) (Nat.le_of_ble_eq_true rfl) dX12_readOne_161 rfl (mg_bad (σ := σ112) 1) (fun v_161 σ_161 q_161 => ?_)
                    obtain ⟨rfl, y_161, rfl, hy_161⟩ := q_161
                    refine Wp.heq (σ' := gUp (gUp σ112 133 60 y_161) 133 61 (σ112 133 56)) ((congrArg (fun z => gUp z 133 61 (σ112 133 56)) rfl).trans rfl) ?_
                    show Wp _ _ _ _ _ _ [gI 0]
                    refine w_zreturn rfl (.inl rfl) dX12_readOne_164 ?_
                    exact Or.inr ⟨rfl, BADE_mk r1 r2 (by rw [r4]; exact hT2) r5.1.1 (f := 1) (by rw [TAK_5 (M := ADV S5 a2 q2 k2 v2) r3]; exact if_neg (by omega)) (by decide) (Or.inl rfl) hy_161 rfl⟩
          · skip
            refine w_aload_n (pc' := 95) (i := 0) (by rfl) (by rfl) dX12_readOne_94 rfl ?_
            refine w_iload_n (pc' := 96) (i := 3) (by rfl) (by rfl) dX12_readOne_95 rfl ?_
            refine v_if_eqB (pc' := 99) (t := 104) dX12_readOne_96 rfl rfl (fun c_96 => ?_) (fun c_96 => ?_)
            · skip
              refine w_bipush (pc' := 106) (by decide) (by decide) dX12_readOne_104 rfl ?_
              refine w_callV (pc' := 109) (d' := 2) (av := [gI 23]) mi_mX12_push lk_X12_457 rfl ci_X12 kd_133 rfl (Nat.le_of_ble_eq_true rfl) (Nat.le_of_ble_eq_true rfl) dX12_readOne_106 rfl (mp_push (σ := gUp σ 133 82 ((σ 133 82) + 1)) (show σ 133 54 ≤ 540 by omega) (show 0 ≤ σ 133 55 ∧ σ 133 55 ≤ σ 133 54 by omega) 23 (by omega) (show 0 ≤ σ 133 79 ∧ σ 133 79 < 140 by omega) (show 0 ≤ σ 133 80 ∧ σ 133 80 < 140 by omega) (show 0 ≤ σ 133 81 ∧ σ 133 81 < 140 by omega)) (fun v_106 σ106 q_106 => ?_)
              obtain ⟨rfl, hk_106, ht_106⟩ := q_106
              show Wp _ _ _ _ _ _ []
              refine w_iconst (pc' := 110) (by decide) dX12_readOne_109 rfl ?_
              refine w_zreturn rfl (.inr rfl) dX12_readOne_110 ?_
              exact Or.inl ⟨rfl, RO_nest hR hf I h4 hT R (by omega) h1 h2 (by have := hw14 (); split <;> omega) rfl hk_106 (ht_106.tr e134 hL54 ht55)⟩
            · skip
              refine w_bipush (pc' := 101) (by decide) (by decide) dX12_readOne_99 rfl ?_
              refine w_goto (pc' := 106) dX12_readOne_101 rfl ?_
              refine w_callV (pc' := 109) (d' := 2) (av := [gI 20]) mi_mX12_push lk_X12_457 rfl ci_X12 kd_133 rfl (Nat.le_of_ble_eq_true rfl) (Nat.le_of_ble_eq_true rfl) dX12_readOne_106 rfl (mp_push (σ := gUp σ 133 82 ((σ 133 82) + 1)) (show σ 133 54 ≤ 540 by omega) (show 0 ≤ σ 133 55 ∧ σ 133 55 ≤ σ 133 54 by omega) 20 (by omega) (show 0 ≤ σ 133 79 ∧ σ 133 79 < 140 by omega) (show 0 ≤ σ 133 80 ∧ σ 133 80 < 140 by omega) (show 0 ≤ σ 133 81 ∧ σ 133 81 < 140 by omega)) (fun v_106 σ106 q_106 => ?_)
              obtain ⟨rfl, hk_106, ht_106⟩ := q_106
              show Wp _ _ _ _ _ _ []
              refine w_iconst (pc' := 110) (by decide) dX12_readOne_109 rfl ?_
              refine w_zreturn rfl (.inr rfl) dX12_readOne_110 ?_
              exact Or.inl ⟨rfl, RO_nest hR hf I h4 hT R (by omega) h1 h2 (by have := hw14 (); split <;> omega) rfl hk_106 (ht_106.tr e134 hL54 ht55)⟩
      · skip
        refine w_aload_n (pc' := 70) (i := 0) (by rfl) (by rfl) dX12_readOne_69 rfl ?_
        refine w_iconst (pc' := 71) (by decide) dX12_readOne_70 rfl ?_
        refine w_callV (pc' := 74) (d' := 0) (av := [gI 4]) mi_mX12_bad lk_X12_409 rfl ci_X12 kd_133 rfl (Nat.le_of_ble_eq_true rfl) (Nat.le_of_ble_eq_true rfl) dX12_readOne_71 rfl (mg_bad (σ := σ) 4) (fun v_71 σ_71 q_71 => ?_)
        obtain ⟨rfl, y_71, rfl, hy_71⟩ := q_71
        refine Wp.heq (σ' := gUp (gUp σ 133 60 y_71) 133 61 (σ 133 56)) ((congrArg (fun z => gUp z 133 61 (σ 133 56)) rfl).trans rfl) ?_
        show Wp _ _ _ _ _ _ [gI 0]
        refine w_zreturn rfl (.inl rfl) dX12_readOne_74 ?_
        exact Or.inr ⟨rfl, BADE_mk hR hf hT R.1.1 (f := 4) (by rw [TAK_4 (M := ADV S a q k v) h4]; unfold LTO; rw [if_neg (show ¬ (¬ (k = 40 ∨ wdO k v = 14) ∧ ¬ atmK ((ADV S a q k v) 57 11) (wdO k v)) from hj31), if_pos (show 60 ≤ (ADV S a q k v) 57 13 ∨ 20 < (ADV S a q k v) 57 14 from (by omega : 60 ≤ S 57 13 ∨ 20 < S 57 14))]) (by decide) (Or.inr (kk_of hj31)) hy_71 rfl⟩
  refine w_iload_n (pc' := 32) (i := 2) (by rfl) (by rfl) dX12_readOne_31 rfl ?_
  refine w_iconst (pc' := 33) (by decide) dX12_readOne_32 rfl ?_
  refine w_icmp_ne (pc' := 36) (t := 51) dX12_readOne_33 rfl rfl (fun c_33 => ?_) (fun c_33 => ?_)
  · skip
    exact hj_51 (by first | omega | exact fun c => c.2 (Classical.not_not.mp fun z => c_33 ((hato ()).1.mpr z)))
  · skip
    refine w_iload_n (pc' := 37) (i := 3) (by rfl) (by rfl) dX12_readOne_36 rfl ?_
    refine v_if_neB (pc' := 40) (t := 51) dX12_readOne_37 rfl rfl (fun c_37 => ?_) (fun c_37 => ?_)
    · skip
      exact hj_51 (by first | omega | exact fun c => c.2 (Classical.not_not.mp fun z => c_33 ((hato ()).1.mpr z)))
    · skip
      refine w_iload (pc' := 42) (by rfl) dX12_readOne_40 rfl ?_
      refine v_if_neB (pc' := 45) (t := 51) dX12_readOne_42 rfl rfl (fun c_42 => ?_) (fun c_42 => ?_)
      · skip
        exact hj_51 (by first | omega | exact fun c => c.2 (Classical.not_not.mp fun z => c_33 ((hato ()).1.mpr z)))
      · skip
        refine w_aload_n (pc' := 46) (i := 0) (by rfl) (by rfl) dX12_readOne_45 rfl ?_
        refine w_iconst (pc' := 47) (by decide) dX12_readOne_46 rfl ?_
        refine w_callV (pc' := 50) (d' := 0) (av := [gI 1]) mi_mX12_bad lk_X12_409 rfl ci_X12 kd_133 rfl (Nat.le_of_ble_eq_true rfl) (Nat.le_of_ble_eq_true rfl) dX12_readOne_47 rfl (mg_bad (σ := σ) 1) (fun v_47 σ_47 q_47 => ?_)
        obtain ⟨rfl, y_47, rfl, hy_47⟩ := q_47
        refine Wp.heq (σ' := gUp (gUp σ 133 60 y_47) 133 61 (σ 133 56)) ((congrArg (fun z => gUp z 133 61 (σ 133 56)) rfl).trans rfl) ?_
        show Wp _ _ _ _ _ _ [gI 0]
        refine w_zreturn rfl (.inl rfl) dX12_readOne_50 ?_
        exact Or.inr ⟨rfl, BADE_mk hR hf hT R.1.1 (f := 1) (by rw [TAK_4 (M := ADV S a q k v) h4]; unfold LTO; rw [if_pos ⟨by omega, (hato ()).1.mp c_33⟩]) (by decide) (Or.inl rfl) hy_47 rfl⟩
