/-! who sits: the class, the duty (gen/mod_sit2.py) -/
abbrev knP (σ : gH) (p f d t l : Int) : Prop := ((0 ≤ HD (AR σ d t) f ∧ HD (AR σ d t) f < σ 3 2) ∧ σ 4 (HD (AR σ d t) f) = 0) ∧ DG σ p d t (HD (AR σ d t) f) ≤ NU σ l 0
/-- what the atoms say of a seat, under the reference's codes -/
noncomputable def FS (σ : gH) (p f d t l : Int) : Int → Int := fun q => if q = 5 then gb (knP σ p f d t l) else if q = 9 then SUMV σ p f d t l else if q = 10 then CNTV σ p f d t l else if q = 11 then gb (POS σ p (HD (AR σ d t) f) d t (NU σ l 2) ≠ -1) else if q = 12 then SHR σ p f d t else if q = 13 then gkI σ p f d t (NU σ l 0) (σ 3 2).toNat else 0
noncomputable def DUTY (σ : gH) (p f d t l : Int) : Int := if HM σ l 8 (FS σ p f d t l) ≠ 0 then 2 else if HM σ l 9 (FS σ p f d t l) ≠ 0 then 1 else 0
theorem gUp_at {σ : gH} {k : Nat} {i v j : Int} : gUp σ k i v k j = if j = i then v else σ k j := congrFun (if_pos rfl) j
set_option maxHeartbeats 4000000 in
theorem k_dutyFor {σ0 σ : gH} (hI : Inv σ0) (hq : QC σ0 σ) (p f d t : Int) (hP : 0 ≤ p ∧ p < σ0 3 2) (hF : 0 ≤ f ∧ f < σ0 3 2) (hD : 0 ≤ d ∧ d ≤ 9999) {l : Int} (hl : LI σ0 d t = l) : Mt mX3_dutyFor 10 [gR 110, gI p, gI f, gI d, gI t] σ (fun v σ' => v = gI (DUTY σ0 p f d t l) ∧ QC σ0 σ' ∧ Kp 112 σ σ') := by
  refine Mt.walk (ls := [gR 110, gI p, gI f, gI d, gI t, gX 1, gX 1]) pn_X3 rfl (fun _ _ h => by cases h.1) (Nat.le_of_ble_eq_true rfl) rfl ?_
  have hp := hI.f.hp
  have hp0 := hI.f.party.2.1
  refine w_aload_n (pc' := 1) (i := 0) (by rfl) (by rfl) dX3_dutyFor_0 rfl ?_
  refine w_getS (pc' := 4) (q := 57) fg_X3_35 kd_110 sf_X3_5 gr_110_5 dX3_dutyFor_1 rfl ?_
  refine w_iload_n (pc' := 5) (i := 3) (by rfl) (by rfl) dX3_dutyFor_4 rfl ?_
  refine w_iload (pc' := 7) (by rfl) dX3_dutyFor_5 rfl ?_
  refine w_callV (pc' := 10) (d' := 1) (av := [gI d, gI t]) mi_mX5_inForce lk_X3_80 rfl ci_X5 kd_57 rfl (Nat.le_of_ble_eq_true rfl) (Nat.le_of_ble_eq_true rfl) dX3_dutyFor_7 rfl (k_inForce hI hq d t) (fun v_7 σ q_7 => ?_)
  obtain ⟨c, rfl, rfl, hL, hc⟩ := q_7
  rw [hl] at hL
  show Wp _ _ _ _ _ _ [gR c]
  refine w_astore (pc' := 12) (ls' := [gR 110, gI p, gI f, gI d, gI t, gR c, gX 1]) (by decide) (by rfl) dX3_dutyFor_10 rfl ?_
  refine w_aload_n (pc' := 13) (i := 0) (by rfl) (by rfl) dX3_dutyFor_12 rfl ?_
  refine w_getS (pc' := 16) (q := 111) fg_X3_9 kd_110 sf_X3_6 gr_110_6 dX3_dutyFor_13 rfl ?_
  refine w_iconst (pc' := 17) (by decide) dX3_dutyFor_16 rfl ?_
  refine v_callSE (pc' := 20) (st' := []) (d' := 0) (av := [gR 111, gI 0]) ms_mJ7_fill_53178 st_mJ7_fill_53178 lk_X3_86 rfl rfl (Nat.le_of_ble_eq_true rfl) (Nat.le_of_ble_eq_true rfl) dX3_dutyFor_17 rfl rfl (k_fillI (x := 111) (n := 14) kd_111 (by decide) σ 0) ?_
  refine w_aload_n (pc' := 21) (i := 0) (by rfl) (by rfl) dX3_dutyFor_20 rfl ?_
  refine w_iload_n (pc' := 22) (i := 1) (by rfl) (by rfl) dX3_dutyFor_21 rfl ?_
  refine w_iload_n (pc' := 23) (i := 2) (by rfl) (by rfl) dX3_dutyFor_22 rfl ?_
  refine w_iload_n (pc' := 24) (i := 3) (by rfl) (by rfl) dX3_dutyFor_23 rfl ?_
  refine w_iload (pc' := 26) (by rfl) dX3_dutyFor_24 rfl ?_
  refine w_aload (pc' := 28) (by rfl) dX3_dutyFor_26 rfl ?_
  refine w_callV (pc' := 31) (d' := 4) (av := [gI p, gI f, gI d, gI t, gR c]) mi_mX3_weigh lk_X3_92 rfl ci_X3 kd_110 rfl (Nat.le_of_ble_eq_true rfl) (Nat.le_of_ble_eq_true rfl) dX3_dutyFor_28 rfl (k_weigh hI (QC.ur (k := 111) (f := (fillF (σ 111) 14 0)) hq (hm_nfC 111 (by decide)) (fun h => h)) hL p f d t (by omega) (by omega) (by omega)) (fun v_28 σ_28 q_28 => ?_)
  obtain ⟨rfl, σ28, hq_28, hk_28, rfl⟩ := q_28
  show Wp _ _ _ _ _ _ []
  refine w_aload_n (pc' := 32) (i := 0) (by rfl) (by rfl) dX3_dutyFor_31 rfl ?_
  refine w_getS (pc' := 35) (q := 14) fg_X3_19 kd_110 sf_X3_1 gr_110_1 dX3_dutyFor_32 rfl ?_
  refine w_iload_n (pc' := 36) (i := 2) (by rfl) (by rfl) dX3_dutyFor_35 rfl ?_
  refine w_iload_n (pc' := 37) (i := 3) (by rfl) (by rfl) dX3_dutyFor_36 rfl ?_
  refine w_iload (pc' := 39) (by rfl) dX3_dutyFor_37 rfl ?_
  refine w_callV (pc' := 42) (d' := 3) (av := [gI f, gI d, gI t]) mi_mX7_headOf lk_X3_134 rfl ci_X7 kd_14 rfl (Nat.le_of_ble_eq_true rfl) (Nat.le_of_ble_eq_true rfl) dX3_dutyFor_39 rfl (k_headOf hI (QC.up (k := 111) (i := 10) (v := (CNTV σ0 p f d t l)) (QC.up (k := 111) (i := 9) (v := (SUMV σ0 p f d t l)) hq_28 (hm_nfC 111 (by decide) _) (fun h => h)) (hm_nfC 111 (by decide) _) (fun h => h)) f d t (by omega)) (fun v_39 σ39 q_39 => ?_)
  obtain ⟨rfl, hq_39, hk_39⟩ := q_39
  show Wp _ _ _ _ _ _ [gI (HD (AR σ0 d t) f)]
  refine w_istore (pc' := 44) (ls' := [gR 110, gI p, gI f, gI d, gI t, gR c, gI (HD (AR σ0 d t) f)]) (by decide) (by rfl) dX3_dutyFor_42 rfl ?_
  refine w_aload_n (pc' := 45) (i := 0) (by rfl) (by rfl) dX3_dutyFor_44 rfl ?_
  refine w_getS (pc' := 48) (q := 111) fg_X3_9 kd_110 sf_X3_6 gr_110_6 dX3_dutyFor_45 rfl ?_
  refine w_bipush (pc' := 50) (by decide) (by decide) dX3_dutyFor_48 rfl ?_
  have hj_88 : ∀ (σj : gH), QC σ0 σj → Kp 34 σ39 σj → Wp mX3_dutyFor 10 (fun v σ' => v = gI (DUTY σ0 p f d t l) ∧ QC σ0 σ' ∧ Kp 112 σ σ') σj 88 [gR 110, gI p, gI f, gI d, gI t, gR c, gI (HD (AR σ0 d t) f)] [gI (gb (knP σ0 p f d t l)), gI 8, gR 111] := by
    intro σj hqj hkj
    refine w_iast (pc' := 89) kd_111 (by omega) (by omega) dX3_dutyFor_88 rfl ?_
    refine w_aload_n (pc' := 90) (i := 0) (by rfl) (by rfl) dX3_dutyFor_89 rfl ?_
    refine w_getS (pc' := 93) (q := 111) fg_X3_9 kd_110 sf_X3_6 gr_110_6 dX3_dutyFor_90 rfl ?_
    refine w_bipush (pc' := 95) (by decide) (by decide) dX3_dutyFor_93 rfl ?_
    refine w_aload_n (pc' := 96) (i := 0) (by rfl) (by rfl) dX3_dutyFor_95 rfl ?_
    refine w_iload_n (pc' := 97) (i := 1) (by rfl) (by rfl) dX3_dutyFor_96 rfl ?_
    refine w_iload (pc' := 99) (by rfl) dX3_dutyFor_97 rfl ?_
    refine w_iload_n (pc' := 100) (i := 3) (by rfl) (by rfl) dX3_dutyFor_99 rfl ?_
    refine w_iload (pc' := 102) (by rfl) dX3_dutyFor_100 rfl ?_
    refine w_aload (pc' := 104) (by rfl) dX3_dutyFor_102 rfl ?_
    refine v_callVE (pc' := 107) (st' := [gI (NU σ0 l 2), gI t, gI d, gI (HD (AR σ0 d t) f), gI p, gR 110, gI 11, gR 111]) (d' := 0) (av := []) mi_mX4_old lk_X3_143 rfl ci_X4 hL.is.1.1 rfl (Nat.le_of_ble_eq_true rfl) (Nat.le_of_ble_eq_true rfl) dX3_dutyFor_104 rfl rfl (k_oldL hL (((hm_up (k := 111) (i := 8) (v := (gb (knP σ0 p f d t l))) (hm_nfC 111 (by decide) _)).trans hqj.1))) ?_
    refine w_callV (pc' := 110) (d' := 5) (av := [gI p, gI (HD (AR σ0 d t) f), gI d, gI t, gI (NU σ0 l 2)]) mi_mX3_hasPost lk_X3_146 rfl ci_X3 kd_110 rfl (Nat.le_of_ble_eq_true rfl) (Nat.le_of_ble_eq_true rfl) dX3_dutyFor_107 rfl (k_hasPost hI (QC.up (k := 111) (i := 8) (v := (gb (knP σ0 p f d t l))) hqj (hm_nfC 111 (by decide) _) (fun h => h)) p (HD (AR σ0 d t) f) d t (NU σ0 l 2) (by omega) (by have := hL.num; omega)) (fun v_107 σ107 q_107 => ?_)
    obtain ⟨rfl, hq_107, hk_107⟩ := q_107
    show Wp _ _ _ _ _ _ [gI (gb (POS σ0 p (HD (AR σ0 d t) f) d t (NU σ0 l 2) ≠ -1)), gI 11, gR 111]
    have hj_118 : Wp mX3_dutyFor 10 (fun v σ' => v = gI (DUTY σ0 p f d t l) ∧ QC σ0 σ' ∧ Kp 112 σ σ') σ107 118 [gR 110, gI p, gI f, gI d, gI t, gR c, gI (HD (AR σ0 d t) f)] [gI (gb (POS σ0 p (HD (AR σ0 d t) f) d t (NU σ0 l 2) ≠ -1)), gI 11, gR 111] := by
      refine w_iast (pc' := 119) kd_111 (by omega) (by omega) dX3_dutyFor_118 rfl ?_
      refine w_aload (pc' := 121) (by rfl) dX3_dutyFor_119 rfl ?_
      refine w_bipush (pc' := 123) (by decide) (by decide) dX3_dutyFor_121 rfl ?_
      refine v_callVE (pc' := 126) (st' := [gI (US σ0 c 12)]) (d' := 0) (av := [gI 12]) mi_mX4_uses lk_X3_150 rfl ci_X4 hL.is.1.1 rfl (Nat.le_of_ble_eq_true rfl) (Nat.le_of_ble_eq_true rfl) dX3_dutyFor_123 rfl rfl (k_usesL hL (((hm_up (k := 111) (i := 11) (v := (gb (POS σ0 p (HD (AR σ0 d t) f) d t (NU σ0 l 2) ≠ -1))) (hm_nfC 111 (by decide) _)).trans hq_107.1)) 12) ?_
      refine w_if_eq (pc' := 129) (t := 148) dX3_dutyFor_126 rfl rfl (fun c_126 => ?_) (fun c_126 => ?_)
      · skip
        refine w_aload (pc' := 150) (by rfl) dX3_dutyFor_148 rfl ?_
        refine w_bipush (pc' := 152) (by decide) (by decide) dX3_dutyFor_150 rfl ?_
        refine v_callVE (pc' := 155) (st' := [gI (US σ0 c 13)]) (d' := 0) (av := [gI 13]) mi_mX4_uses lk_X3_150 rfl ci_X4 hL.is.1.1 rfl (Nat.le_of_ble_eq_true rfl) (Nat.le_of_ble_eq_true rfl) dX3_dutyFor_152 rfl rfl (k_usesL hL (((hm_up (k := 111) (i := 11) (v := (gb (POS σ0 p (HD (AR σ0 d t) f) d t (NU σ0 l 2) ≠ -1))) (hm_nfC 111 (by decide) _)).trans hq_107.1)) 13) ?_
        refine w_if_eq (pc' := 158) (t := 179) dX3_dutyFor_155 rfl rfl (fun c_155 => ?_) (fun c_155 => ?_)
        · skip
          have e_h : ∀ m, (gUp σ107 111 11 (gb (POS σ0 p (HD (AR σ0 d t) f) d t (NU σ0 l 2) ≠ -1))) 111 m = if m = 11 then gb (POS σ0 p (HD (AR σ0 d t) f) d t (NU σ0 l 2) ≠ -1) else (if m = 8 then gb (knP σ0 p f d t l) else (if m = 10 then CNTV σ0 p f d t l else (if m = 9 then SUMV σ0 p f d t l else ((fillF (σ 111) 14 0) m)))) := by
            intro m
            have a_σ107 : σ107 111 = (gUp σj 111 8 (gb (knP σ0 p f d t l))) 111 := hk_107 111 (by decide)
            have a_σj : σj 111 = (σ39) 111 := hkj 111 (by decide)
            have a_σ39 : σ39 111 = (gUp (gUp σ28 111 9 (SUMV σ0 p f d t l)) 111 10 (CNTV σ0 p f d t l)) 111 := hk_39 111 (by decide)
            have a_σ28 : σ28 111 = (gUr σ 111 (fillF (σ 111) 14 0)) 111 := hk_28 111 (by decide)
            simp only [gUp_at, a_σ107, a_σj, a_σ39, a_σ28]
            try rfl
          have hvv : ∀ r : Int, 8 ≤ r → ∀ m, isAtm r m → (∃ i, 0 ≤ i ∧ i < σ0 c 15 ∧ σ0 (c + 4) i = m) → (gUp σ107 111 11 (gb (POS σ0 p (HD (AR σ0 d t) f) d t (NU σ0 l 2) ≠ -1))) 111 m = FS σ0 p f d t l (rnM m) ∧ (¬ isMeas m → (gUp σ107 111 11 (gb (POS σ0 p (HD (AR σ0 d t) f) d t (NU σ0 l 2) ≠ -1))) 111 m = 0 ∨ (gUp σ107 111 11 (gb (POS σ0 p (HD (AR σ0 d t) f) d t (NU σ0 l 2) ≠ -1))) 111 m = 1) := by
            intro r hr m hm hu
            unfold isAtm at hm
            rw [if_neg (show ¬ r < 8 by omega)] at hm
            rcases (show m = 8 ∨ m = 9 ∨ m = 10 ∨ m = 11 ∨ m = 12 ∨ m = 13 by omega) with rfl | rfl | rfl | rfl | rfl | rfl
            · have e : (gUp σ107 111 11 (gb (POS σ0 p (HD (AR σ0 d t) f) d t (NU σ0 l 2) ≠ -1))) 111 8 = gb (knP σ0 p f d t l) := (e_h 8).trans rfl
              rw [e]
              exact ⟨rfl, fun _ => gb_01 _⟩
            · have e : (gUp σ107 111 11 (gb (POS σ0 p (HD (AR σ0 d t) f) d t (NU σ0 l 2) ≠ -1))) 111 9 = SUMV σ0 p f d t l := (e_h 9).trans rfl
              rw [e]
              exact ⟨rfl, fun hn => absurd (by decide) hn⟩
            · have e : (gUp σ107 111 11 (gb (POS σ0 p (HD (AR σ0 d t) f) d t (NU σ0 l 2) ≠ -1))) 111 10 = CNTV σ0 p f d t l := (e_h 10).trans rfl
              rw [e]
              exact ⟨rfl, fun hn => absurd (by decide) hn⟩
            · have e : (gUp σ107 111 11 (gb (POS σ0 p (HD (AR σ0 d t) f) d t (NU σ0 l 2) ≠ -1))) 111 11 = gb (POS σ0 p (HD (AR σ0 d t) f) d t (NU σ0 l 2) ≠ -1) := (e_h 11).trans rfl
              rw [e]
              exact ⟨rfl, fun _ => gb_01 _⟩
            · exfalso
              obtain ⟨i, i0, i1, e⟩ := hu
              have u : US σ0 c 12 = 1 := anyI_1 (P := fun i => σ0 (c + 4) i = 12) i0 i1 e
              omega
            · exfalso
              obtain ⟨i, i0, i1, e⟩ := hu
              have u : US σ0 c 13 = 1 := anyI_1 (P := fun i => σ0 (c + 4) i = 13) i0 i1 e
              omega
          refine w_aload (pc' := 181) (by rfl) dX3_dutyFor_179 rfl ?_
          refine w_bipush (pc' := 183) (by decide) (by decide) dX3_dutyFor_181 rfl ?_
          refine w_aload_n (pc' := 184) (i := 0) (by rfl) (by rfl) dX3_dutyFor_183 rfl ?_
          refine w_getS (pc' := 187) (q := 111) fg_X3_9 kd_110 sf_X3_6 gr_110_6 dX3_dutyFor_184 rfl ?_
          refine v_callVE (pc' := 190) (st' := [gI (gb (HM σ0 l 8 (FS σ0 p f d t l) ≠ 0))]) (d' := 1) (av := [gI 8, gR 111]) mi_mX4_holds lk_X3_130 rfl ci_X4 hL.is.1.1 rfl (Nat.le_of_ble_eq_true rfl) (Nat.le_of_ble_eq_true rfl) dX3_dutyFor_187 rfl rfl (k_holdsL hL (((hm_up (k := 111) (i := 11) (v := (gb (POS σ0 p (HD (AR σ0 d t) f) d t (NU σ0 l 2) ≠ -1))) (hm_nfC 111 (by decide) _)).trans hq_107.1)) 8 (by omega) (by omega) (FS σ0 p f d t l) (hvv 8 (by omega))) ?_
          refine v_if_eqB (pc' := 193) (t := 195) dX3_dutyFor_190 rfl rfl (fun c_190 => ?_) (fun c_190 => ?_)
          · skip
            refine w_aload (pc' := 197) (by rfl) dX3_dutyFor_195 rfl ?_
            refine w_bipush (pc' := 199) (by decide) (by decide) dX3_dutyFor_197 rfl ?_
            refine w_aload_n (pc' := 200) (i := 0) (by rfl) (by rfl) dX3_dutyFor_199 rfl ?_
            refine w_getS (pc' := 203) (q := 111) fg_X3_9 kd_110 sf_X3_6 gr_110_6 dX3_dutyFor_200 rfl ?_
            refine v_callVE (pc' := 206) (st' := [gI (gb (HM σ0 l 9 (FS σ0 p f d t l) ≠ 0))]) (d' := 1) (av := [gI 9, gR 111]) mi_mX4_holds lk_X3_130 rfl ci_X4 hL.is.1.1 rfl (Nat.le_of_ble_eq_true rfl) (Nat.le_of_ble_eq_true rfl) dX3_dutyFor_203 rfl rfl (k_holdsL hL (((hm_up (k := 111) (i := 11) (v := (gb (POS σ0 p (HD (AR σ0 d t) f) d t (NU σ0 l 2) ≠ -1))) (hm_nfC 111 (by decide) _)).trans hq_107.1)) 9 (by omega) (by omega) (FS σ0 p f d t l) (hvv 9 (by omega))) ?_
            refine v_if_eqB (pc' := 209) (t := 213) dX3_dutyFor_206 rfl rfl (fun c_206 => ?_) (fun c_206 => ?_)
            · skip
              refine w_iconst (pc' := 214) (by decide) dX3_dutyFor_213 rfl ?_
              refine v_ireturn rfl dX3_dutyFor_214 ?_
              first | exact ⟨by unfold DUTY; rw [if_neg (by assumption), if_pos (by assumption)], (QC.up (k := 111) (i := 11) (v := (gb (POS σ0 p (HD (AR σ0 d t) f) d t (NU σ0 l 2) ≠ -1))) hq_107 (hm_nfC 111 (by decide) _) (fun h => h)), (Kp.up (((Kp.up (((((Kp.up (Kp.up (((Kp.ur Kp.refl (by decide))).trans (hk_28.mono (by decide))) (by decide)) (by decide))).trans (hk_39.mono (by decide)))).trans (hkj.mono (by decide))) (by decide))).trans (hk_107.mono (by decide))) (by decide))⟩ | exact ⟨by unfold DUTY; rw [if_neg c_190, if_neg c_206], (QC.up (k := 111) (i := 11) (v := (gb (POS σ0 p (HD (AR σ0 d t) f) d t (NU σ0 l 2) ≠ -1))) hq_107 (hm_nfC 111 (by decide) _) (fun h => h)), (Kp.up (((Kp.up (((((Kp.up (Kp.up (((Kp.ur Kp.refl (by decide))).trans (hk_28.mono (by decide))) (by decide)) (by decide))).trans (hk_39.mono (by decide)))).trans (hkj.mono (by decide))) (by decide))).trans (hk_107.mono (by decide))) (by decide))⟩
            · skip
              refine w_iconst (pc' := 210) (by decide) dX3_dutyFor_209 rfl ?_
              refine w_goto (pc' := 214) dX3_dutyFor_210 rfl ?_
              refine v_ireturn rfl dX3_dutyFor_214 ?_
              first | exact ⟨by unfold DUTY; rw [if_neg (by assumption), if_pos (by assumption)], (QC.up (k := 111) (i := 11) (v := (gb (POS σ0 p (HD (AR σ0 d t) f) d t (NU σ0 l 2) ≠ -1))) hq_107 (hm_nfC 111 (by decide) _) (fun h => h)), (Kp.up (((Kp.up (((((Kp.up (Kp.up (((Kp.ur Kp.refl (by decide))).trans (hk_28.mono (by decide))) (by decide)) (by decide))).trans (hk_39.mono (by decide)))).trans (hkj.mono (by decide))) (by decide))).trans (hk_107.mono (by decide))) (by decide))⟩ | exact ⟨by unfold DUTY; rw [if_neg c_190, if_neg c_206], (QC.up (k := 111) (i := 11) (v := (gb (POS σ0 p (HD (AR σ0 d t) f) d t (NU σ0 l 2) ≠ -1))) hq_107 (hm_nfC 111 (by decide) _) (fun h => h)), (Kp.up (((Kp.up (((((Kp.up (Kp.up (((Kp.ur Kp.refl (by decide))).trans (hk_28.mono (by decide))) (by decide)) (by decide))).trans (hk_39.mono (by decide)))).trans (hkj.mono (by decide))) (by decide))).trans (hk_107.mono (by decide))) (by decide))⟩
          · skip
            refine w_iconst (pc' := 194) (by decide) dX3_dutyFor_193 rfl ?_
            refine v_ireturn rfl dX3_dutyFor_194 ?_
            exact ⟨by unfold DUTY; rw [if_pos (by assumption)], (QC.up (k := 111) (i := 11) (v := (gb (POS σ0 p (HD (AR σ0 d t) f) d t (NU σ0 l 2) ≠ -1))) hq_107 (hm_nfC 111 (by decide) _) (fun h => h)), (Kp.up (((Kp.up (((((Kp.up (Kp.up (((Kp.ur Kp.refl (by decide))).trans (hk_28.mono (by decide))) (by decide)) (by decide))).trans (hk_39.mono (by decide)))).trans (hkj.mono (by decide))) (by decide))).trans (hk_107.mono (by decide))) (by decide))⟩
        · skip
          refine w_aload_n (pc' := 159) (i := 0) (by rfl) (by rfl) dX3_dutyFor_158 rfl ?_
          refine w_getS (pc' := 162) (q := 111) fg_X3_9 kd_110 sf_X3_6 gr_110_6 dX3_dutyFor_159 rfl ?_
          refine w_bipush (pc' := 164) (by decide) (by decide) dX3_dutyFor_162 rfl ?_
          refine w_aload_n (pc' := 165) (i := 0) (by rfl) (by rfl) dX3_dutyFor_164 rfl ?_
          refine w_iload_n (pc' := 166) (i := 1) (by rfl) (by rfl) dX3_dutyFor_165 rfl ?_
          refine w_iload_n (pc' := 167) (i := 2) (by rfl) (by rfl) dX3_dutyFor_166 rfl ?_
          refine w_iload_n (pc' := 168) (i := 3) (by rfl) (by rfl) dX3_dutyFor_167 rfl ?_
          refine w_iload (pc' := 170) (by rfl) dX3_dutyFor_168 rfl ?_
          refine w_aload (pc' := 172) (by rfl) dX3_dutyFor_170 rfl ?_
          refine v_callVE (pc' := 175) (st' := [gI (NU σ0 l 0), gI t, gI d, gI f, gI p, gR 110, gI 13, gR 111]) (d' := 0) (av := []) mi_mX4_kinLimit lk_X3_112 rfl ci_X4 hL.is.1.1 rfl (Nat.le_of_ble_eq_true rfl) (Nat.le_of_ble_eq_true rfl) dX3_dutyFor_172 rfl rfl (k_kinL hL (((hm_up (k := 111) (i := 11) (v := (gb (POS σ0 p (HD (AR σ0 d t) f) d t (NU σ0 l 2) ≠ -1))) (hm_nfC 111 (by decide) _)).trans hq_107.1))) ?_
          refine w_callV (pc' := 178) (d' := 8) (av := [gI p, gI f, gI d, gI t, gI (NU σ0 l 0)]) mi_mX3_greatestOfKin lk_X3_158 rfl ci_X3 kd_110 rfl (Nat.le_of_ble_eq_true rfl) (Nat.le_of_ble_eq_true rfl) dX3_dutyFor_175 rfl (k_greatestOfKin hI (QC.up (k := 111) (i := 11) (v := (gb (POS σ0 p (HD (AR σ0 d t) f) d t (NU σ0 l 2) ≠ -1))) hq_107 (hm_nfC 111 (by decide) _) (fun h => h)) p f d t (NU σ0 l 0) (by omega) (by omega) (by omega)) (fun v_175 σ175 q_175 => ?_)
          obtain ⟨rfl, hq_175, hk_175⟩ := q_175
          show Wp _ _ _ _ _ _ [gI (gkI σ0 p f d t (NU σ0 l 0) (σ0 3 2).toNat), gI 13, gR 111]
          refine w_iast (pc' := 179) kd_111 (by omega) (by omega) dX3_dutyFor_178 rfl ?_
          have e_h : ∀ m, (gUp σ175 111 13 (gkI σ0 p f d t (NU σ0 l 0) (σ0 3 2).toNat)) 111 m = if m = 13 then gkI σ0 p f d t (NU σ0 l 0) (σ0 3 2).toNat else (if m = 11 then gb (POS σ0 p (HD (AR σ0 d t) f) d t (NU σ0 l 2) ≠ -1) else (if m = 8 then gb (knP σ0 p f d t l) else (if m = 10 then CNTV σ0 p f d t l else (if m = 9 then SUMV σ0 p f d t l else ((fillF (σ 111) 14 0) m))))) := by
            intro m
            have a_σ175 : σ175 111 = (gUp σ107 111 11 (gb (POS σ0 p (HD (AR σ0 d t) f) d t (NU σ0 l 2) ≠ -1))) 111 := hk_175 111 (by decide)
            have a_σ107 : σ107 111 = (gUp σj 111 8 (gb (knP σ0 p f d t l))) 111 := hk_107 111 (by decide)
            have a_σj : σj 111 = (σ39) 111 := hkj 111 (by decide)
            have a_σ39 : σ39 111 = (gUp (gUp σ28 111 9 (SUMV σ0 p f d t l)) 111 10 (CNTV σ0 p f d t l)) 111 := hk_39 111 (by decide)
            have a_σ28 : σ28 111 = (gUr σ 111 (fillF (σ 111) 14 0)) 111 := hk_28 111 (by decide)
            simp only [gUp_at, a_σ175, a_σ107, a_σj, a_σ39, a_σ28]
            try rfl
          have hvv : ∀ r : Int, 8 ≤ r → ∀ m, isAtm r m → (∃ i, 0 ≤ i ∧ i < σ0 c 15 ∧ σ0 (c + 4) i = m) → (gUp σ175 111 13 (gkI σ0 p f d t (NU σ0 l 0) (σ0 3 2).toNat)) 111 m = FS σ0 p f d t l (rnM m) ∧ (¬ isMeas m → (gUp σ175 111 13 (gkI σ0 p f d t (NU σ0 l 0) (σ0 3 2).toNat)) 111 m = 0 ∨ (gUp σ175 111 13 (gkI σ0 p f d t (NU σ0 l 0) (σ0 3 2).toNat)) 111 m = 1) := by
            intro r hr m hm hu
            unfold isAtm at hm
            rw [if_neg (show ¬ r < 8 by omega)] at hm
            rcases (show m = 8 ∨ m = 9 ∨ m = 10 ∨ m = 11 ∨ m = 12 ∨ m = 13 by omega) with rfl | rfl | rfl | rfl | rfl | rfl
            · have e : (gUp σ175 111 13 (gkI σ0 p f d t (NU σ0 l 0) (σ0 3 2).toNat)) 111 8 = gb (knP σ0 p f d t l) := (e_h 8).trans rfl
              rw [e]
              exact ⟨rfl, fun _ => gb_01 _⟩
            · have e : (gUp σ175 111 13 (gkI σ0 p f d t (NU σ0 l 0) (σ0 3 2).toNat)) 111 9 = SUMV σ0 p f d t l := (e_h 9).trans rfl
              rw [e]
              exact ⟨rfl, fun hn => absurd (by decide) hn⟩
            · have e : (gUp σ175 111 13 (gkI σ0 p f d t (NU σ0 l 0) (σ0 3 2).toNat)) 111 10 = CNTV σ0 p f d t l := (e_h 10).trans rfl
              rw [e]
              exact ⟨rfl, fun hn => absurd (by decide) hn⟩
            · have e : (gUp σ175 111 13 (gkI σ0 p f d t (NU σ0 l 0) (σ0 3 2).toNat)) 111 11 = gb (POS σ0 p (HD (AR σ0 d t) f) d t (NU σ0 l 2) ≠ -1) := (e_h 11).trans rfl
              rw [e]
              exact ⟨rfl, fun _ => gb_01 _⟩
            · exfalso
              obtain ⟨i, i0, i1, e⟩ := hu
              have u : US σ0 c 12 = 1 := anyI_1 (P := fun i => σ0 (c + 4) i = 12) i0 i1 e
              omega
            · have e : (gUp σ175 111 13 (gkI σ0 p f d t (NU σ0 l 0) (σ0 3 2).toNat)) 111 13 = gkI σ0 p f d t (NU σ0 l 0) (σ0 3 2).toNat := (e_h 13).trans rfl
              rw [e]
              exact ⟨rfl, fun hn => absurd (by decide) hn⟩
          refine w_aload (pc' := 181) (by rfl) dX3_dutyFor_179 rfl ?_
          refine w_bipush (pc' := 183) (by decide) (by decide) dX3_dutyFor_181 rfl ?_
          refine w_aload_n (pc' := 184) (i := 0) (by rfl) (by rfl) dX3_dutyFor_183 rfl ?_
          refine w_getS (pc' := 187) (q := 111) fg_X3_9 kd_110 sf_X3_6 gr_110_6 dX3_dutyFor_184 rfl ?_
          refine v_callVE (pc' := 190) (st' := [gI (gb (HM σ0 l 8 (FS σ0 p f d t l) ≠ 0))]) (d' := 1) (av := [gI 8, gR 111]) mi_mX4_holds lk_X3_130 rfl ci_X4 hL.is.1.1 rfl (Nat.le_of_ble_eq_true rfl) (Nat.le_of_ble_eq_true rfl) dX3_dutyFor_187 rfl rfl (k_holdsL hL (((hm_up (k := 111) (i := 13) (v := (gkI σ0 p f d t (NU σ0 l 0) (σ0 3 2).toNat)) (hm_nfC 111 (by decide) _)).trans hq_175.1)) 8 (by omega) (by omega) (FS σ0 p f d t l) (hvv 8 (by omega))) ?_
          refine v_if_eqB (pc' := 193) (t := 195) dX3_dutyFor_190 rfl rfl (fun c_190 => ?_) (fun c_190 => ?_)
          · skip
            refine w_aload (pc' := 197) (by rfl) dX3_dutyFor_195 rfl ?_
            refine w_bipush (pc' := 199) (by decide) (by decide) dX3_dutyFor_197 rfl ?_
            refine w_aload_n (pc' := 200) (i := 0) (by rfl) (by rfl) dX3_dutyFor_199 rfl ?_
            refine w_getS (pc' := 203) (q := 111) fg_X3_9 kd_110 sf_X3_6 gr_110_6 dX3_dutyFor_200 rfl ?_
            refine v_callVE (pc' := 206) (st' := [gI (gb (HM σ0 l 9 (FS σ0 p f d t l) ≠ 0))]) (d' := 1) (av := [gI 9, gR 111]) mi_mX4_holds lk_X3_130 rfl ci_X4 hL.is.1.1 rfl (Nat.le_of_ble_eq_true rfl) (Nat.le_of_ble_eq_true rfl) dX3_dutyFor_203 rfl rfl (k_holdsL hL (((hm_up (k := 111) (i := 13) (v := (gkI σ0 p f d t (NU σ0 l 0) (σ0 3 2).toNat)) (hm_nfC 111 (by decide) _)).trans hq_175.1)) 9 (by omega) (by omega) (FS σ0 p f d t l) (hvv 9 (by omega))) ?_
            refine v_if_eqB (pc' := 209) (t := 213) dX3_dutyFor_206 rfl rfl (fun c_206 => ?_) (fun c_206 => ?_)
            · skip
              refine w_iconst (pc' := 214) (by decide) dX3_dutyFor_213 rfl ?_
              refine v_ireturn rfl dX3_dutyFor_214 ?_
              first | exact ⟨by unfold DUTY; rw [if_neg (by assumption), if_pos (by assumption)], (QC.up (k := 111) (i := 13) (v := (gkI σ0 p f d t (NU σ0 l 0) (σ0 3 2).toNat)) hq_175 (hm_nfC 111 (by decide) _) (fun h => h)), (Kp.up (((Kp.up (((Kp.up (((((Kp.up (Kp.up (((Kp.ur Kp.refl (by decide))).trans (hk_28.mono (by decide))) (by decide)) (by decide))).trans (hk_39.mono (by decide)))).trans (hkj.mono (by decide))) (by decide))).trans (hk_107.mono (by decide))) (by decide))).trans (hk_175.mono (by decide))) (by decide))⟩ | exact ⟨by unfold DUTY; rw [if_neg c_190, if_neg c_206], (QC.up (k := 111) (i := 13) (v := (gkI σ0 p f d t (NU σ0 l 0) (σ0 3 2).toNat)) hq_175 (hm_nfC 111 (by decide) _) (fun h => h)), (Kp.up (((Kp.up (((Kp.up (((((Kp.up (Kp.up (((Kp.ur Kp.refl (by decide))).trans (hk_28.mono (by decide))) (by decide)) (by decide))).trans (hk_39.mono (by decide)))).trans (hkj.mono (by decide))) (by decide))).trans (hk_107.mono (by decide))) (by decide))).trans (hk_175.mono (by decide))) (by decide))⟩
            · skip
              refine w_iconst (pc' := 210) (by decide) dX3_dutyFor_209 rfl ?_
              refine w_goto (pc' := 214) dX3_dutyFor_210 rfl ?_
              refine v_ireturn rfl dX3_dutyFor_214 ?_
              first | exact ⟨by unfold DUTY; rw [if_neg (by assumption), if_pos (by assumption)], (QC.up (k := 111) (i := 13) (v := (gkI σ0 p f d t (NU σ0 l 0) (σ0 3 2).toNat)) hq_175 (hm_nfC 111 (by decide) _) (fun h => h)), (Kp.up (((Kp.up (((Kp.up (((((Kp.up (Kp.up (((Kp.ur Kp.refl (by decide))).trans (hk_28.mono (by decide))) (by decide)) (by decide))).trans (hk_39.mono (by decide)))).trans (hkj.mono (by decide))) (by decide))).trans (hk_107.mono (by decide))) (by decide))).trans (hk_175.mono (by decide))) (by decide))⟩ | exact ⟨by unfold DUTY; rw [if_neg c_190, if_neg c_206], (QC.up (k := 111) (i := 13) (v := (gkI σ0 p f d t (NU σ0 l 0) (σ0 3 2).toNat)) hq_175 (hm_nfC 111 (by decide) _) (fun h => h)), (Kp.up (((Kp.up (((Kp.up (((((Kp.up (Kp.up (((Kp.ur Kp.refl (by decide))).trans (hk_28.mono (by decide))) (by decide)) (by decide))).trans (hk_39.mono (by decide)))).trans (hkj.mono (by decide))) (by decide))).trans (hk_107.mono (by decide))) (by decide))).trans (hk_175.mono (by decide))) (by decide))⟩
          · skip
            refine w_iconst (pc' := 194) (by decide) dX3_dutyFor_193 rfl ?_
            refine v_ireturn rfl dX3_dutyFor_194 ?_
            exact ⟨by unfold DUTY; rw [if_pos (by assumption)], (QC.up (k := 111) (i := 13) (v := (gkI σ0 p f d t (NU σ0 l 0) (σ0 3 2).toNat)) hq_175 (hm_nfC 111 (by decide) _) (fun h => h)), (Kp.up (((Kp.up (((Kp.up (((((Kp.up (Kp.up (((Kp.ur Kp.refl (by decide))).trans (hk_28.mono (by decide))) (by decide)) (by decide))).trans (hk_39.mono (by decide)))).trans (hkj.mono (by decide))) (by decide))).trans (hk_107.mono (by decide))) (by decide))).trans (hk_175.mono (by decide))) (by decide))⟩
      · skip
        refine w_aload_n (pc' := 130) (i := 0) (by rfl) (by rfl) dX3_dutyFor_129 rfl ?_
        refine w_getS (pc' := 133) (q := 111) fg_X3_9 kd_110 sf_X3_6 gr_110_6 dX3_dutyFor_130 rfl ?_
        refine w_bipush (pc' := 135) (by decide) (by decide) dX3_dutyFor_133 rfl ?_
        refine w_aload_n (pc' := 136) (i := 0) (by rfl) (by rfl) dX3_dutyFor_135 rfl ?_
        refine w_getS (pc' := 139) (q := 30) fg_X3_23 kd_110 sf_X3_2 gr_110_2 dX3_dutyFor_136 rfl ?_
        refine w_iload_n (pc' := 140) (i := 1) (by rfl) (by rfl) dX3_dutyFor_139 rfl ?_
        refine w_iload_n (pc' := 141) (i := 2) (by rfl) (by rfl) dX3_dutyFor_140 rfl ?_
        refine w_iload_n (pc' := 142) (i := 3) (by rfl) (by rfl) dX3_dutyFor_141 rfl ?_
        refine w_iload (pc' := 144) (by rfl) dX3_dutyFor_142 rfl ?_
        refine w_callV (pc' := 147) (d' := 7) (av := [gI p, gI f, gI d, gI t]) mi_mX0_cutPartOf lk_X3_153 rfl ci_X0 kd_30 rfl (Nat.le_of_ble_eq_true rfl) (Nat.le_of_ble_eq_true rfl) dX3_dutyFor_144 rfl (k_cutPartOf hI (QC.up (k := 111) (i := 11) (v := (gb (POS σ0 p (HD (AR σ0 d t) f) d t (NU σ0 l 2) ≠ -1))) hq_107 (hm_nfC 111 (by decide) _) (fun h => h)) p f d t ⟨by omega, by omega⟩ ⟨by omega, by omega⟩) (fun v_144 σ144 q_144 => ?_)
        obtain ⟨rfl, hq_144, hk_144⟩ := q_144
        show Wp _ _ _ _ _ _ [gI (SHR σ0 p f d t), gI 12, gR 111]
        refine w_iast (pc' := 148) kd_111 (by omega) (by omega) dX3_dutyFor_147 rfl ?_
        refine w_aload (pc' := 150) (by rfl) dX3_dutyFor_148 rfl ?_
        refine w_bipush (pc' := 152) (by decide) (by decide) dX3_dutyFor_150 rfl ?_
        refine v_callVE (pc' := 155) (st' := [gI (US σ0 c 13)]) (d' := 0) (av := [gI 13]) mi_mX4_uses lk_X3_150 rfl ci_X4 hL.is.1.1 rfl (Nat.le_of_ble_eq_true rfl) (Nat.le_of_ble_eq_true rfl) dX3_dutyFor_152 rfl rfl (k_usesL hL (((hm_up (k := 111) (i := 12) (v := (SHR σ0 p f d t)) (hm_nfC 111 (by decide) _)).trans hq_144.1)) 13) ?_
        refine w_if_eq (pc' := 158) (t := 179) dX3_dutyFor_155 rfl rfl (fun c_155 => ?_) (fun c_155 => ?_)
        · skip
          have e_h : ∀ m, (gUp σ144 111 12 (SHR σ0 p f d t)) 111 m = if m = 12 then SHR σ0 p f d t else (if m = 11 then gb (POS σ0 p (HD (AR σ0 d t) f) d t (NU σ0 l 2) ≠ -1) else (if m = 8 then gb (knP σ0 p f d t l) else (if m = 10 then CNTV σ0 p f d t l else (if m = 9 then SUMV σ0 p f d t l else ((fillF (σ 111) 14 0) m))))) := by
            intro m
            have a_σ144 : σ144 111 = (gUp σ107 111 11 (gb (POS σ0 p (HD (AR σ0 d t) f) d t (NU σ0 l 2) ≠ -1))) 111 := hk_144 111 (by decide)
            have a_σ107 : σ107 111 = (gUp σj 111 8 (gb (knP σ0 p f d t l))) 111 := hk_107 111 (by decide)
            have a_σj : σj 111 = (σ39) 111 := hkj 111 (by decide)
            have a_σ39 : σ39 111 = (gUp (gUp σ28 111 9 (SUMV σ0 p f d t l)) 111 10 (CNTV σ0 p f d t l)) 111 := hk_39 111 (by decide)
            have a_σ28 : σ28 111 = (gUr σ 111 (fillF (σ 111) 14 0)) 111 := hk_28 111 (by decide)
            simp only [gUp_at, a_σ144, a_σ107, a_σj, a_σ39, a_σ28]
            try rfl
          have hvv : ∀ r : Int, 8 ≤ r → ∀ m, isAtm r m → (∃ i, 0 ≤ i ∧ i < σ0 c 15 ∧ σ0 (c + 4) i = m) → (gUp σ144 111 12 (SHR σ0 p f d t)) 111 m = FS σ0 p f d t l (rnM m) ∧ (¬ isMeas m → (gUp σ144 111 12 (SHR σ0 p f d t)) 111 m = 0 ∨ (gUp σ144 111 12 (SHR σ0 p f d t)) 111 m = 1) := by
            intro r hr m hm hu
            unfold isAtm at hm
            rw [if_neg (show ¬ r < 8 by omega)] at hm
            rcases (show m = 8 ∨ m = 9 ∨ m = 10 ∨ m = 11 ∨ m = 12 ∨ m = 13 by omega) with rfl | rfl | rfl | rfl | rfl | rfl
            · have e : (gUp σ144 111 12 (SHR σ0 p f d t)) 111 8 = gb (knP σ0 p f d t l) := (e_h 8).trans rfl
              rw [e]
              exact ⟨rfl, fun _ => gb_01 _⟩
            · have e : (gUp σ144 111 12 (SHR σ0 p f d t)) 111 9 = SUMV σ0 p f d t l := (e_h 9).trans rfl
              rw [e]
              exact ⟨rfl, fun hn => absurd (by decide) hn⟩
            · have e : (gUp σ144 111 12 (SHR σ0 p f d t)) 111 10 = CNTV σ0 p f d t l := (e_h 10).trans rfl
              rw [e]
              exact ⟨rfl, fun hn => absurd (by decide) hn⟩
            · have e : (gUp σ144 111 12 (SHR σ0 p f d t)) 111 11 = gb (POS σ0 p (HD (AR σ0 d t) f) d t (NU σ0 l 2) ≠ -1) := (e_h 11).trans rfl
              rw [e]
              exact ⟨rfl, fun _ => gb_01 _⟩
            · have e : (gUp σ144 111 12 (SHR σ0 p f d t)) 111 12 = SHR σ0 p f d t := (e_h 12).trans rfl
              rw [e]
              exact ⟨rfl, fun hn => absurd (by decide) hn⟩
            · exfalso
              obtain ⟨i, i0, i1, e⟩ := hu
              have u : US σ0 c 13 = 1 := anyI_1 (P := fun i => σ0 (c + 4) i = 13) i0 i1 e
              omega
          refine w_aload (pc' := 181) (by rfl) dX3_dutyFor_179 rfl ?_
          refine w_bipush (pc' := 183) (by decide) (by decide) dX3_dutyFor_181 rfl ?_
          refine w_aload_n (pc' := 184) (i := 0) (by rfl) (by rfl) dX3_dutyFor_183 rfl ?_
          refine w_getS (pc' := 187) (q := 111) fg_X3_9 kd_110 sf_X3_6 gr_110_6 dX3_dutyFor_184 rfl ?_
          refine v_callVE (pc' := 190) (st' := [gI (gb (HM σ0 l 8 (FS σ0 p f d t l) ≠ 0))]) (d' := 1) (av := [gI 8, gR 111]) mi_mX4_holds lk_X3_130 rfl ci_X4 hL.is.1.1 rfl (Nat.le_of_ble_eq_true rfl) (Nat.le_of_ble_eq_true rfl) dX3_dutyFor_187 rfl rfl (k_holdsL hL (((hm_up (k := 111) (i := 12) (v := (SHR σ0 p f d t)) (hm_nfC 111 (by decide) _)).trans hq_144.1)) 8 (by omega) (by omega) (FS σ0 p f d t l) (hvv 8 (by omega))) ?_
          refine v_if_eqB (pc' := 193) (t := 195) dX3_dutyFor_190 rfl rfl (fun c_190 => ?_) (fun c_190 => ?_)
          · skip
            refine w_aload (pc' := 197) (by rfl) dX3_dutyFor_195 rfl ?_
            refine w_bipush (pc' := 199) (by decide) (by decide) dX3_dutyFor_197 rfl ?_
            refine w_aload_n (pc' := 200) (i := 0) (by rfl) (by rfl) dX3_dutyFor_199 rfl ?_
            refine w_getS (pc' := 203) (q := 111) fg_X3_9 kd_110 sf_X3_6 gr_110_6 dX3_dutyFor_200 rfl ?_
            refine v_callVE (pc' := 206) (st' := [gI (gb (HM σ0 l 9 (FS σ0 p f d t l) ≠ 0))]) (d' := 1) (av := [gI 9, gR 111]) mi_mX4_holds lk_X3_130 rfl ci_X4 hL.is.1.1 rfl (Nat.le_of_ble_eq_true rfl) (Nat.le_of_ble_eq_true rfl) dX3_dutyFor_203 rfl rfl (k_holdsL hL (((hm_up (k := 111) (i := 12) (v := (SHR σ0 p f d t)) (hm_nfC 111 (by decide) _)).trans hq_144.1)) 9 (by omega) (by omega) (FS σ0 p f d t l) (hvv 9 (by omega))) ?_
            refine v_if_eqB (pc' := 209) (t := 213) dX3_dutyFor_206 rfl rfl (fun c_206 => ?_) (fun c_206 => ?_)
            · skip
              refine w_iconst (pc' := 214) (by decide) dX3_dutyFor_213 rfl ?_
              refine v_ireturn rfl dX3_dutyFor_214 ?_
              first | exact ⟨by unfold DUTY; rw [if_neg (by assumption), if_pos (by assumption)], (QC.up (k := 111) (i := 12) (v := (SHR σ0 p f d t)) hq_144 (hm_nfC 111 (by decide) _) (fun h => h)), (Kp.up (((Kp.up (((Kp.up (((((Kp.up (Kp.up (((Kp.ur Kp.refl (by decide))).trans (hk_28.mono (by decide))) (by decide)) (by decide))).trans (hk_39.mono (by decide)))).trans (hkj.mono (by decide))) (by decide))).trans (hk_107.mono (by decide))) (by decide))).trans (hk_144.mono (by decide))) (by decide))⟩ | exact ⟨by unfold DUTY; rw [if_neg c_190, if_neg c_206], (QC.up (k := 111) (i := 12) (v := (SHR σ0 p f d t)) hq_144 (hm_nfC 111 (by decide) _) (fun h => h)), (Kp.up (((Kp.up (((Kp.up (((((Kp.up (Kp.up (((Kp.ur Kp.refl (by decide))).trans (hk_28.mono (by decide))) (by decide)) (by decide))).trans (hk_39.mono (by decide)))).trans (hkj.mono (by decide))) (by decide))).trans (hk_107.mono (by decide))) (by decide))).trans (hk_144.mono (by decide))) (by decide))⟩
            · skip
              refine w_iconst (pc' := 210) (by decide) dX3_dutyFor_209 rfl ?_
              refine w_goto (pc' := 214) dX3_dutyFor_210 rfl ?_
              refine v_ireturn rfl dX3_dutyFor_214 ?_
              first | exact ⟨by unfold DUTY; rw [if_neg (by assumption), if_pos (by assumption)], (QC.up (k := 111) (i := 12) (v := (SHR σ0 p f d t)) hq_144 (hm_nfC 111 (by decide) _) (fun h => h)), (Kp.up (((Kp.up (((Kp.up (((((Kp.up (Kp.up (((Kp.ur Kp.refl (by decide))).trans (hk_28.mono (by decide))) (by decide)) (by decide))).trans (hk_39.mono (by decide)))).trans (hkj.mono (by decide))) (by decide))).trans (hk_107.mono (by decide))) (by decide))).trans (hk_144.mono (by decide))) (by decide))⟩ | exact ⟨by unfold DUTY; rw [if_neg c_190, if_neg c_206], (QC.up (k := 111) (i := 12) (v := (SHR σ0 p f d t)) hq_144 (hm_nfC 111 (by decide) _) (fun h => h)), (Kp.up (((Kp.up (((Kp.up (((((Kp.up (Kp.up (((Kp.ur Kp.refl (by decide))).trans (hk_28.mono (by decide))) (by decide)) (by decide))).trans (hk_39.mono (by decide)))).trans (hkj.mono (by decide))) (by decide))).trans (hk_107.mono (by decide))) (by decide))).trans (hk_144.mono (by decide))) (by decide))⟩
          · skip
            refine w_iconst (pc' := 194) (by decide) dX3_dutyFor_193 rfl ?_
            refine v_ireturn rfl dX3_dutyFor_194 ?_
            exact ⟨by unfold DUTY; rw [if_pos (by assumption)], (QC.up (k := 111) (i := 12) (v := (SHR σ0 p f d t)) hq_144 (hm_nfC 111 (by decide) _) (fun h => h)), (Kp.up (((Kp.up (((Kp.up (((((Kp.up (Kp.up (((Kp.ur Kp.refl (by decide))).trans (hk_28.mono (by decide))) (by decide)) (by decide))).trans (hk_39.mono (by decide)))).trans (hkj.mono (by decide))) (by decide))).trans (hk_107.mono (by decide))) (by decide))).trans (hk_144.mono (by decide))) (by decide))⟩
        · skip
          refine w_aload_n (pc' := 159) (i := 0) (by rfl) (by rfl) dX3_dutyFor_158 rfl ?_
          refine w_getS (pc' := 162) (q := 111) fg_X3_9 kd_110 sf_X3_6 gr_110_6 dX3_dutyFor_159 rfl ?_
          refine w_bipush (pc' := 164) (by decide) (by decide) dX3_dutyFor_162 rfl ?_
          refine w_aload_n (pc' := 165) (i := 0) (by rfl) (by rfl) dX3_dutyFor_164 rfl ?_
          refine w_iload_n (pc' := 166) (i := 1) (by rfl) (by rfl) dX3_dutyFor_165 rfl ?_
          refine w_iload_n (pc' := 167) (i := 2) (by rfl) (by rfl) dX3_dutyFor_166 rfl ?_
          refine w_iload_n (pc' := 168) (i := 3) (by rfl) (by rfl) dX3_dutyFor_167 rfl ?_
          refine w_iload (pc' := 170) (by rfl) dX3_dutyFor_168 rfl ?_
          refine w_aload (pc' := 172) (by rfl) dX3_dutyFor_170 rfl ?_
          refine v_callVE (pc' := 175) (st' := [gI (NU σ0 l 0), gI t, gI d, gI f, gI p, gR 110, gI 13, gR 111]) (d' := 0) (av := []) mi_mX4_kinLimit lk_X3_112 rfl ci_X4 hL.is.1.1 rfl (Nat.le_of_ble_eq_true rfl) (Nat.le_of_ble_eq_true rfl) dX3_dutyFor_172 rfl rfl (k_kinL hL (((hm_up (k := 111) (i := 12) (v := (SHR σ0 p f d t)) (hm_nfC 111 (by decide) _)).trans hq_144.1))) ?_
          refine w_callV (pc' := 178) (d' := 8) (av := [gI p, gI f, gI d, gI t, gI (NU σ0 l 0)]) mi_mX3_greatestOfKin lk_X3_158 rfl ci_X3 kd_110 rfl (Nat.le_of_ble_eq_true rfl) (Nat.le_of_ble_eq_true rfl) dX3_dutyFor_175 rfl (k_greatestOfKin hI (QC.up (k := 111) (i := 12) (v := (SHR σ0 p f d t)) hq_144 (hm_nfC 111 (by decide) _) (fun h => h)) p f d t (NU σ0 l 0) (by omega) (by omega) (by omega)) (fun v_175 σ175 q_175 => ?_)
          obtain ⟨rfl, hq_175, hk_175⟩ := q_175
          show Wp _ _ _ _ _ _ [gI (gkI σ0 p f d t (NU σ0 l 0) (σ0 3 2).toNat), gI 13, gR 111]
          refine w_iast (pc' := 179) kd_111 (by omega) (by omega) dX3_dutyFor_178 rfl ?_
          have e_h : ∀ m, (gUp σ175 111 13 (gkI σ0 p f d t (NU σ0 l 0) (σ0 3 2).toNat)) 111 m = if m = 13 then gkI σ0 p f d t (NU σ0 l 0) (σ0 3 2).toNat else (if m = 12 then SHR σ0 p f d t else (if m = 11 then gb (POS σ0 p (HD (AR σ0 d t) f) d t (NU σ0 l 2) ≠ -1) else (if m = 8 then gb (knP σ0 p f d t l) else (if m = 10 then CNTV σ0 p f d t l else (if m = 9 then SUMV σ0 p f d t l else ((fillF (σ 111) 14 0) m)))))) := by
            intro m
            have a_σ175 : σ175 111 = (gUp σ144 111 12 (SHR σ0 p f d t)) 111 := hk_175 111 (by decide)
            have a_σ144 : σ144 111 = (gUp σ107 111 11 (gb (POS σ0 p (HD (AR σ0 d t) f) d t (NU σ0 l 2) ≠ -1))) 111 := hk_144 111 (by decide)
            have a_σ107 : σ107 111 = (gUp σj 111 8 (gb (knP σ0 p f d t l))) 111 := hk_107 111 (by decide)
            have a_σj : σj 111 = (σ39) 111 := hkj 111 (by decide)
            have a_σ39 : σ39 111 = (gUp (gUp σ28 111 9 (SUMV σ0 p f d t l)) 111 10 (CNTV σ0 p f d t l)) 111 := hk_39 111 (by decide)
            have a_σ28 : σ28 111 = (gUr σ 111 (fillF (σ 111) 14 0)) 111 := hk_28 111 (by decide)
            simp only [gUp_at, a_σ175, a_σ144, a_σ107, a_σj, a_σ39, a_σ28]
            try rfl
          have hvv : ∀ r : Int, 8 ≤ r → ∀ m, isAtm r m → (∃ i, 0 ≤ i ∧ i < σ0 c 15 ∧ σ0 (c + 4) i = m) → (gUp σ175 111 13 (gkI σ0 p f d t (NU σ0 l 0) (σ0 3 2).toNat)) 111 m = FS σ0 p f d t l (rnM m) ∧ (¬ isMeas m → (gUp σ175 111 13 (gkI σ0 p f d t (NU σ0 l 0) (σ0 3 2).toNat)) 111 m = 0 ∨ (gUp σ175 111 13 (gkI σ0 p f d t (NU σ0 l 0) (σ0 3 2).toNat)) 111 m = 1) := by
            intro r hr m hm hu
            unfold isAtm at hm
            rw [if_neg (show ¬ r < 8 by omega)] at hm
            rcases (show m = 8 ∨ m = 9 ∨ m = 10 ∨ m = 11 ∨ m = 12 ∨ m = 13 by omega) with rfl | rfl | rfl | rfl | rfl | rfl
            · have e : (gUp σ175 111 13 (gkI σ0 p f d t (NU σ0 l 0) (σ0 3 2).toNat)) 111 8 = gb (knP σ0 p f d t l) := (e_h 8).trans rfl
              rw [e]
              exact ⟨rfl, fun _ => gb_01 _⟩
            · have e : (gUp σ175 111 13 (gkI σ0 p f d t (NU σ0 l 0) (σ0 3 2).toNat)) 111 9 = SUMV σ0 p f d t l := (e_h 9).trans rfl
              rw [e]
              exact ⟨rfl, fun hn => absurd (by decide) hn⟩
            · have e : (gUp σ175 111 13 (gkI σ0 p f d t (NU σ0 l 0) (σ0 3 2).toNat)) 111 10 = CNTV σ0 p f d t l := (e_h 10).trans rfl
              rw [e]
              exact ⟨rfl, fun hn => absurd (by decide) hn⟩
            · have e : (gUp σ175 111 13 (gkI σ0 p f d t (NU σ0 l 0) (σ0 3 2).toNat)) 111 11 = gb (POS σ0 p (HD (AR σ0 d t) f) d t (NU σ0 l 2) ≠ -1) := (e_h 11).trans rfl
              rw [e]
              exact ⟨rfl, fun _ => gb_01 _⟩
            · have e : (gUp σ175 111 13 (gkI σ0 p f d t (NU σ0 l 0) (σ0 3 2).toNat)) 111 12 = SHR σ0 p f d t := (e_h 12).trans rfl
              rw [e]
              exact ⟨rfl, fun hn => absurd (by decide) hn⟩
            · have e : (gUp σ175 111 13 (gkI σ0 p f d t (NU σ0 l 0) (σ0 3 2).toNat)) 111 13 = gkI σ0 p f d t (NU σ0 l 0) (σ0 3 2).toNat := (e_h 13).trans rfl
              rw [e]
              exact ⟨rfl, fun hn => absurd (by decide) hn⟩
          refine w_aload (pc' := 181) (by rfl) dX3_dutyFor_179 rfl ?_
          refine w_bipush (pc' := 183) (by decide) (by decide) dX3_dutyFor_181 rfl ?_
          refine w_aload_n (pc' := 184) (i := 0) (by rfl) (by rfl) dX3_dutyFor_183 rfl ?_
          refine w_getS (pc' := 187) (q := 111) fg_X3_9 kd_110 sf_X3_6 gr_110_6 dX3_dutyFor_184 rfl ?_
          refine v_callVE (pc' := 190) (st' := [gI (gb (HM σ0 l 8 (FS σ0 p f d t l) ≠ 0))]) (d' := 1) (av := [gI 8, gR 111]) mi_mX4_holds lk_X3_130 rfl ci_X4 hL.is.1.1 rfl (Nat.le_of_ble_eq_true rfl) (Nat.le_of_ble_eq_true rfl) dX3_dutyFor_187 rfl rfl (k_holdsL hL (((hm_up (k := 111) (i := 13) (v := (gkI σ0 p f d t (NU σ0 l 0) (σ0 3 2).toNat)) (hm_nfC 111 (by decide) _)).trans hq_175.1)) 8 (by omega) (by omega) (FS σ0 p f d t l) (hvv 8 (by omega))) ?_
          refine v_if_eqB (pc' := 193) (t := 195) dX3_dutyFor_190 rfl rfl (fun c_190 => ?_) (fun c_190 => ?_)
          · skip
            refine w_aload (pc' := 197) (by rfl) dX3_dutyFor_195 rfl ?_
            refine w_bipush (pc' := 199) (by decide) (by decide) dX3_dutyFor_197 rfl ?_
            refine w_aload_n (pc' := 200) (i := 0) (by rfl) (by rfl) dX3_dutyFor_199 rfl ?_
            refine w_getS (pc' := 203) (q := 111) fg_X3_9 kd_110 sf_X3_6 gr_110_6 dX3_dutyFor_200 rfl ?_
            refine v_callVE (pc' := 206) (st' := [gI (gb (HM σ0 l 9 (FS σ0 p f d t l) ≠ 0))]) (d' := 1) (av := [gI 9, gR 111]) mi_mX4_holds lk_X3_130 rfl ci_X4 hL.is.1.1 rfl (Nat.le_of_ble_eq_true rfl) (Nat.le_of_ble_eq_true rfl) dX3_dutyFor_203 rfl rfl (k_holdsL hL (((hm_up (k := 111) (i := 13) (v := (gkI σ0 p f d t (NU σ0 l 0) (σ0 3 2).toNat)) (hm_nfC 111 (by decide) _)).trans hq_175.1)) 9 (by omega) (by omega) (FS σ0 p f d t l) (hvv 9 (by omega))) ?_
            refine v_if_eqB (pc' := 209) (t := 213) dX3_dutyFor_206 rfl rfl (fun c_206 => ?_) (fun c_206 => ?_)
            · skip
              refine w_iconst (pc' := 214) (by decide) dX3_dutyFor_213 rfl ?_
              refine v_ireturn rfl dX3_dutyFor_214 ?_
              first | exact ⟨by unfold DUTY; rw [if_neg (by assumption), if_pos (by assumption)], (QC.up (k := 111) (i := 13) (v := (gkI σ0 p f d t (NU σ0 l 0) (σ0 3 2).toNat)) hq_175 (hm_nfC 111 (by decide) _) (fun h => h)), (Kp.up (((Kp.up (((Kp.up (((Kp.up (((((Kp.up (Kp.up (((Kp.ur Kp.refl (by decide))).trans (hk_28.mono (by decide))) (by decide)) (by decide))).trans (hk_39.mono (by decide)))).trans (hkj.mono (by decide))) (by decide))).trans (hk_107.mono (by decide))) (by decide))).trans (hk_144.mono (by decide))) (by decide))).trans (hk_175.mono (by decide))) (by decide))⟩ | exact ⟨by unfold DUTY; rw [if_neg c_190, if_neg c_206], (QC.up (k := 111) (i := 13) (v := (gkI σ0 p f d t (NU σ0 l 0) (σ0 3 2).toNat)) hq_175 (hm_nfC 111 (by decide) _) (fun h => h)), (Kp.up (((Kp.up (((Kp.up (((Kp.up (((((Kp.up (Kp.up (((Kp.ur Kp.refl (by decide))).trans (hk_28.mono (by decide))) (by decide)) (by decide))).trans (hk_39.mono (by decide)))).trans (hkj.mono (by decide))) (by decide))).trans (hk_107.mono (by decide))) (by decide))).trans (hk_144.mono (by decide))) (by decide))).trans (hk_175.mono (by decide))) (by decide))⟩
            · skip
              refine w_iconst (pc' := 210) (by decide) dX3_dutyFor_209 rfl ?_
              refine w_goto (pc' := 214) dX3_dutyFor_210 rfl ?_
              refine v_ireturn rfl dX3_dutyFor_214 ?_
              first | exact ⟨by unfold DUTY; rw [if_neg (by assumption), if_pos (by assumption)], (QC.up (k := 111) (i := 13) (v := (gkI σ0 p f d t (NU σ0 l 0) (σ0 3 2).toNat)) hq_175 (hm_nfC 111 (by decide) _) (fun h => h)), (Kp.up (((Kp.up (((Kp.up (((Kp.up (((((Kp.up (Kp.up (((Kp.ur Kp.refl (by decide))).trans (hk_28.mono (by decide))) (by decide)) (by decide))).trans (hk_39.mono (by decide)))).trans (hkj.mono (by decide))) (by decide))).trans (hk_107.mono (by decide))) (by decide))).trans (hk_144.mono (by decide))) (by decide))).trans (hk_175.mono (by decide))) (by decide))⟩ | exact ⟨by unfold DUTY; rw [if_neg c_190, if_neg c_206], (QC.up (k := 111) (i := 13) (v := (gkI σ0 p f d t (NU σ0 l 0) (σ0 3 2).toNat)) hq_175 (hm_nfC 111 (by decide) _) (fun h => h)), (Kp.up (((Kp.up (((Kp.up (((Kp.up (((((Kp.up (Kp.up (((Kp.ur Kp.refl (by decide))).trans (hk_28.mono (by decide))) (by decide)) (by decide))).trans (hk_39.mono (by decide)))).trans (hkj.mono (by decide))) (by decide))).trans (hk_107.mono (by decide))) (by decide))).trans (hk_144.mono (by decide))) (by decide))).trans (hk_175.mono (by decide))) (by decide))⟩
          · skip
            refine w_iconst (pc' := 194) (by decide) dX3_dutyFor_193 rfl ?_
            refine v_ireturn rfl dX3_dutyFor_194 ?_
            exact ⟨by unfold DUTY; rw [if_pos (by assumption)], (QC.up (k := 111) (i := 13) (v := (gkI σ0 p f d t (NU σ0 l 0) (σ0 3 2).toNat)) hq_175 (hm_nfC 111 (by decide) _) (fun h => h)), (Kp.up (((Kp.up (((Kp.up (((Kp.up (((((Kp.up (Kp.up (((Kp.ur Kp.refl (by decide))).trans (hk_28.mono (by decide))) (by decide)) (by decide))).trans (hk_39.mono (by decide)))).trans (hkj.mono (by decide))) (by decide))).trans (hk_107.mono (by decide))) (by decide))).trans (hk_144.mono (by decide))) (by decide))).trans (hk_175.mono (by decide))) (by decide))⟩
    refine v_if_eqB (pc' := 113) (t := 117) dX3_dutyFor_110 rfl rfl (fun c_110 => ?_) (fun c_110 => ?_)
    · skip
      refine w_iconst (pc' := 118) (by decide) dX3_dutyFor_117 rfl ?_
      exact Wp.stI (by first | (exfalso; omega) | exact (gb_f (P := POS σ0 p (HD (AR σ0 d t) f) d t (NU σ0 l 2) ≠ -1) (by omega)).symm) hj_118
    · skip
      refine w_iconst (pc' := 114) (by decide) dX3_dutyFor_113 rfl ?_
      refine w_goto (pc' := 118) dX3_dutyFor_114 rfl ?_
      exact Wp.stI (by first | (exfalso; omega) | exact (gb_t (P := POS σ0 p (HD (AR σ0 d t) f) d t (NU σ0 l 2) ≠ -1) (by omega)).symm) hj_118
  refine w_aload_n (pc' := 51) (i := 0) (by rfl) (by rfl) dX3_dutyFor_50 rfl ?_
  refine w_getS (pc' := 54) (q := 3) fg_X3_15 kd_110 sf_X3_0 gr_110_0 dX3_dutyFor_51 rfl ?_
  refine w_iload (pc' := 56) (by rfl) dX3_dutyFor_54 rfl ?_
  refine v_callVE (pc' := 59) (st' := [gI (gb ((0 ≤ (HD (AR σ0 d t) f) ∧ (HD (AR σ0 d t) f) < (σ0 3 2)) ∧ (σ0 4 (HD (AR σ0 d t) f)) = 0)), gI 8, gR 111]) (d' := 1) (av := [gI (HD (AR σ0 d t) f)]) mi_mX8_isPerson lk_X3_103 rfl ci_X8 kd_3 rfl (Nat.le_of_ble_eq_true rfl) (Nat.le_of_ble_eq_true rfl) dX3_dutyFor_56 rfl rfl (hmP (F := fun z => gI (gb ((0 ≤ (HD (AR σ0 d t) f) ∧ (HD (AR σ0 d t) f) < (z 3 2)) ∧ (z 4 (HD (AR σ0 d t) f)) = 0))) (hq_39.1) (fun _ => rfl) (pa_isPerson σ39 (hm_FA (hq_39.1) hI.1).1.hp (HD (AR σ0 d t) f))) ?_
  refine v_if_eqB (pc' := 62) (t := 87) dX3_dutyFor_59 rfl rfl (fun c_59 => ?_) (fun c_59 => ?_)
  · skip
    refine w_iconst (pc' := 88) (by decide) dX3_dutyFor_87 rfl ?_
    exact Wp.stI (by first | (exfalso; omega) | exact (gb_f (P := knP σ0 p f d t l) (by omega)).symm) (hj_88 σ39 hq_39 Kp.refl)
  · skip
    refine w_aload_n (pc' := 63) (i := 0) (by rfl) (by rfl) dX3_dutyFor_62 rfl ?_
    refine w_getS (pc' := 66) (q := 3) fg_X3_15 kd_110 sf_X3_0 gr_110_0 dX3_dutyFor_63 rfl ?_
    refine w_iload_n (pc' := 67) (i := 1) (by rfl) (by rfl) dX3_dutyFor_66 rfl ?_
    refine w_iload (pc' := 69) (by rfl) dX3_dutyFor_67 rfl ?_
    refine w_iload_n (pc' := 70) (i := 3) (by rfl) (by rfl) dX3_dutyFor_69 rfl ?_
    refine w_iload (pc' := 72) (by rfl) dX3_dutyFor_70 rfl ?_
    refine w_callV (pc' := 75) (d' := 2) (av := [gI p, gI (HD (AR σ0 d t) f), gI d, gI t]) mi_mX8_degreeOf lk_X3_108 rfl ci_X8 kd_3 rfl (Nat.le_of_ble_eq_true rfl) (Nat.le_of_ble_eq_true rfl) dX3_dutyFor_72 rfl (k_degreeOf hI hq_39 p (HD (AR σ0 d t) f) d t (by omega) (by omega)) (fun v_72 σ72 q_72 => ?_)
    obtain ⟨rfl, hq_72, hk_72⟩ := q_72
    show Wp _ _ _ _ _ _ [gI (DG σ0 p d t (HD (AR σ0 d t) f)), gI 8, gR 111]
    refine w_aload (pc' := 77) (by rfl) dX3_dutyFor_75 rfl ?_
    refine v_callVE (pc' := 80) (st' := [gI (NU σ0 l 0), gI (DG σ0 p d t (HD (AR σ0 d t) f)), gI 8, gR 111]) (d' := 0) (av := []) mi_mX4_kinLimit lk_X3_112 rfl ci_X4 hL.is.1.1 rfl (Nat.le_of_ble_eq_true rfl) (Nat.le_of_ble_eq_true rfl) dX3_dutyFor_77 rfl rfl (k_kinL hL (hq_72.1)) ?_
    refine w_icmp_gt (pc' := 83) (t := 87) dX3_dutyFor_80 rfl rfl (fun c_80 => ?_) (fun c_80 => ?_)
    · skip
      refine w_iconst (pc' := 88) (by decide) dX3_dutyFor_87 rfl ?_
      exact Wp.stI (by first | (exfalso; omega) | exact (gb_f (P := knP σ0 p f d t l) (by omega)).symm) (hj_88 σ72 hq_72 hk_72)
    · skip
      refine w_iconst (pc' := 84) (by decide) dX3_dutyFor_83 rfl ?_
      refine w_goto (pc' := 88) dX3_dutyFor_84 rfl ?_
      exact Wp.stI (by first | (exfalso; omega) | exact (gb_t (P := knP σ0 p f d t l) (by omega)).symm) (hj_88 σ72 hq_72 hk_72)
