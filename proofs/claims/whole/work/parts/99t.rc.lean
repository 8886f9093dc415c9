/-! the reference reads a condition (gen/mod_rc.py) -/
theorem rowsD {σ : gH} : σ = gUp (gUr (gUp σ 133 79 (σ 133 79)) 180 (σ 180)) 133 83 (σ 133 83) := by
  rw [show gUp σ 133 79 (σ 133 79) = σ from gUp_id, show gUr σ 180 (σ 180) = σ from gUr_id, show gUp σ 133 83 (σ 133 83) = σ from gUp_id]
theorem DRP_of {σ : gH} {m z : Int} {P : Int → Int} (hz : z = σ 133 83 + (σ 133 79 - m)) (hP : P = rvf (σ 180) (1200 + σ 133 83) (σ 133 79 - m) (σ 186) (σ 133 79)) : gUp (gUr (gUp σ 133 79 m) 180 P) 133 83 z = DRP σ m := by
  subst hz hP; rfl
theorem DRP_top {σ : gH} {m t : Int} : gUp (DRP σ m) 133 79 t = gUp (gUr (gUp σ 133 79 t) 180 (rvf (σ 180) (1200 + σ 133 83) (σ 133 79 - m) (σ 186) (σ 133 79))) 133 83 (σ 133 83 + (σ 133 79 - m)) := by
  unfold DRP
  rw [gUp_ci (by decide), gUp_cr (by decide), gUp_same]
/-- a condition begins on both sides -/
theorem RC_beg {T : Int → Int} {L c : Int} {σ0 S0 S σ : gH} (hR : RCH T L S0 S) (hf : ¬ FIN S) (I : INVb L S) (hw0 : S 57 17 = 0) (hd1 : S 57 14 = 1) (hb0 : S 57 15 = 0) (hB : S 70 (S 57 12) = S 68 15) (R : RLB L σ0 S σ True (S 57 12)) (h175 : σ 175 6 = S 68 3) (hm : MTK T L (S 66 4) σ) (hc : c = S 57 12) (hc0 : 0 ≤ c) {z : Int} (hz : z = σ 133 83) : RCI T L σ0 S0 S S (gUp (gUp (gUp (gUp (gUp σ 178 (60 + c) z) 133 79 0) 133 80 0) 133 81 0) 133 84 0) := by
  obtain ⟨r1, r2, r3, r4, r5, r6, r7, r8, r9⟩ := R
  refine ⟨hR, hf, ⟨⟨((((r1.up (isR_ft (Or.inl rfl) (by omega))).up rfl).up rfl).up rfl).up rfl, r2, r3, r4, r5, r6, r7, r8, fun r a b e => ?_⟩, ⟨hw0.symm, by rw [hd1]; rfl, hb0.symm, fun k a b => by omega⟩, ?_, h175⟩, ?_, Int.le_refl _, rfl, rfl, rfl⟩
  · have e2 : (gUp (gUp (gUp (gUp (gUp σ 178 (60 + c) z) 133 79 0) 133 80 0) 133 81 0) 133 84 0) 178 (60 + r) = σ 178 (60 + r) := if_neg (by have := e trivial; omega)
    rw [e2]
    exact r9 r a b e
  · rw [hB, ← r4, ← hc, ← hz]
    exact if_pos rfl
  · refine hm.keep fun j hj => ?_
    show (if j = 84 then _ else if j = 81 then _ else if j = 80 then _ else if j = 79 then _ else σ 133 j) = σ 133 j
    rw [if_neg (by omega), if_neg (by omega), if_neg (by omega), if_neg (by omega)]
/-- what the pile says at a bracket, and at the end -/
theorem RC_par {L : Int} {σ0 S σ : gH} (I : INVb L S) (h7 : S 57 6 = 7) (R : RLC L σ0 S σ) : (lkF (S 67) 16 (S 57 17).toNat ≤ σ 133 79) ∧ (0 < lkF (S 67) 16 (S 57 17).toNat → σ 186 (lkF (S 67) 16 (S 57 17).toNat - 1) = 23) ∧ (∀ i, lkF (S 67) 16 (S 57 17).toNat ≤ i → i < σ 133 79 → σ 186 i = 21 ∨ σ 186 i = 22) := by
  obtain ⟨C, ho, hz, hE, hr, ht, t7, _⟩ := I.2.2.2.2.2.2.2.2.1 (by omega)
  have N := lkF_at (W := S 67) (x := 16) C.1
  have tp := links_top C.2.1 N (t7 h7)
  obtain ⟨p1, p2, p3, p4⟩ := R.2.1
  obtain ⟨n1, n2, n3⟩ := N
  refine ⟨by omega, fun q => ?_, fun i a b => ?_⟩
  · rw [p4 _ (by omega) (by omega), tp q]; rfl
  · have e := n2 i a (by omega)
    have f := rnP_of (x := S 67 i) (by omega)
    rw [p4 i (by omega) (by omega)]
    omega
set_option maxHeartbeats 4000000 in
theorem mr_readCond {T : Int → Int} {L : Int} {σ0 S0 S σ : gH} (I0 : INV L S0) (hR : RCH T L S0 S) (hf : ¬ FIN S) (eT : T = σ0 134) (hLL : L ≤ 540) (h4 : S 57 6 = 4) (hw0 : S 57 17 = 0) (hd1 : S 57 14 = 1) (hb0 : S 57 15 = 0) (hB : S 70 (S 57 12) = S 68 15) (R : RLB L σ0 S σ True (S 57 12)) (h175 : σ 175 6 = S 68 3) (hm : MTK T L (S 66 4) σ) (c : Int) (hc : c = S 57 12) (tl : Int) (htl : tl = 0 ∨ tl = 1) (htt : S 57 11 ≠ 0 ↔ tl = 1) : Mt mX12_readCond 4 [gR 133, gI c, gI tl] σ (fun w σ' => (w = gI 1 ∧ RDN T L σ0 S0 S σ') ∨ (w = gI 0 ∧ BADE T L σ0 S0 σ')) := by
  refine Mt.walk (ls := [gR 133, gI c, gI tl, gX 1]) pn_X12 rfl (fun _ _ h => by rcases h with h | h <;> cases h.1) (Nat.le_of_ble_eq_true rfl) rfl ?_
  have f0 : S 57 3 = 0 := Classical.not_not.mp fun c => hf (Or.inl c)
  have I : INVb L S := (hR.inv I0) f0
  have hL54 : σ 133 54 = L := R.2.1
  have h83 : σ 133 83 = S 68 15 := R.2.2.2.1
  have hz83 := (BND_of I).2.1
  have hr12 := ((BND_of I).2.2.2.2.2.1 (by omega)).2.2.2.2
  refine w_aload_n (pc' := 1) (i := 0) (by rfl) (by rfl) dX12_readCond_0 rfl ?_
  refine w_getS (pc' := 4) (q := 178) fg_X12_154 kd_133 sf_X12_69 gr_133_69 dX12_readCond_1 rfl ?_
  refine w_bipush (pc' := 6) (by decide) (by decide) dX12_readCond_4 rfl ?_
  refine w_iload_n (pc' := 7) (i := 1) (by rfl) (by rfl) dX12_readCond_6 rfl ?_
  refine v_iadd (pc' := 8) (by omega) dX12_readCond_7 rfl ?_
  refine w_aload_n (pc' := 9) (i := 0) (by rfl) (by rfl) dX12_readCond_8 rfl ?_
  refine v_getI (pc' := 12) (ji := 83) rfl fg_X12_426 kd_133 dX12_readCond_9 rfl ?_
  refine w_iast (pc' := 13) kd_178 (by omega) (by omega) dX12_readCond_12 rfl ?_
  refine w_aload_n (pc' := 14) (i := 0) (by rfl) (by rfl) dX12_readCond_13 rfl ?_
  refine w_iconst (pc' := 15) (by decide) dX12_readCond_14 rfl ?_
  refine v_putI (pc' := 18) (ji := 79) rfl fp_X12_429 kd_133 sf_X12_79 dX12_readCond_15 rfl ?_
  refine w_aload_n (pc' := 19) (i := 0) (by rfl) (by rfl) dX12_readCond_18 rfl ?_
  refine w_iconst (pc' := 20) (by decide) dX12_readCond_19 rfl ?_
  refine v_putI (pc' := 23) (ji := 80) rfl fp_X12_438 kd_133 sf_X12_80 dX12_readCond_20 rfl ?_
  refine w_aload_n (pc' := 24) (i := 0) (by rfl) (by rfl) dX12_readCond_23 rfl ?_
  refine w_iconst (pc' := 25) (by decide) dX12_readCond_24 rfl ?_
  refine v_putI (pc' := 28) (ji := 81) rfl fp_X12_441 kd_133 sf_X12_81 dX12_readCond_25 rfl ?_
  refine w_aload_n (pc' := 29) (i := 0) (by rfl) (by rfl) dX12_readCond_28 rfl ?_
  refine w_iconst (pc' := 30) (by decide) dX12_readCond_29 rfl ?_
  refine v_putZ (pc' := 33) (ji := 84) (.inl rfl) rfl fp_X12_466 kd_133 sf_X12_84 dX12_readCond_30 rfl ?_
  have hl_33 : ∀ (mm : Nat) (σl Sl : gH), (541 - Sl 66 4).toNat = mm → (RCI T L σ0 S0 S Sl σl) → (∀ _ : Unit, (Sl 57 6 = 4 ∧ σl 133 84 = 0) ∨ (Sl 57 6 = 7 ∧ σl 133 84 = 1)) → Wp mX12_readCond 4 (fun w σ' => (w = gI 1 ∧ RDN T L σ0 S0 S σ') ∨ (w = gI 0 ∧ BADE T L σ0 S0 σ')) σl 33 [gR 133, gI c, gI tl, gX 1] [] := by
    intro m_33
    induction m_33 using Nat.strongRecOn with
    | _ m_33 ih_33 =>
      intro σl Sl hmeas_33 hC hwh
      have f0l : Sl 57 3 = 0 := Classical.not_not.mp fun c => hC.2.1 (Or.inl c)
      have Il : INVb L Sl := (hC.1.inv I0) f0l
      have h47 : 4 ≤ Sl 57 6 ∧ Sl 57 6 ≤ 7 := by have := hwh (); omega
      have hBl := hC.2.2.1.bnd Il h47 hLL
      obtain ⟨a, q, k, v, hTl⟩ := hC.2.2.2.1.of
      have hL54l : σl 133 54 = L := hC.2.2.1.1.2.1
      have hpL : 0 ≤ Sl 66 4 ∧ Sl 66 4 ≤ L := Il.1.2.2.2
      have hq : 0 ≤ q ∧ q ≤ L := ⟨(TOKN_in hpL hTl.1).1, (TOKN_in hpL hTl.1).2.1⟩
      have hto : ∀ _ : Unit, k ≠ 0 → σl 133 55 = q := fun _ => hTl.rest.2.2.2
      have e134l : σl 134 = T := by rw [eT]; exact funext fun i => hC.2.2.1.1.1 134 i rfl
      have h83l : σl 133 83 = Sl 68 15 := hC.2.2.1.1.2.2.2.1
      have h81l : σl 133 81 = Sl 57 15 := hC.2.2.1.2.1.2.2.1
      have h79l : σl 133 79 = Sl 57 17 := hC.2.2.1.2.1.1
      have hpil : ∀ _ : Unit, _ := fun _ => hC.2.2.1.2.1.2.2.2
      have hCC : ∀ _ : Unit, _ := fun _ => (Il.2.2.2.2.2.2.2.2.1 h47)
      refine w_aload_n (pc' := 34) (i := 0) (by rfl) (by rfl) dX12_readCond_33 rfl ?_
      refine v_getZ (pc' := 37) (ji := 84) rfl fg_X12_466 kd_133 dX12_readCond_34 rfl ?_
      refine w_if_ne (pc' := 40) (t := 75) dX12_readCond_37 rfl rfl (fun c_37 => ?_) (fun c_37 => ?_)
      · skip
        have h7l : Sl 57 6 = 7 := by have := hwh (); omega
        refine w_aload_n (pc' := 76) (i := 0) (by rfl) (by rfl) dX12_readCond_75 rfl ?_
        refine w_bipush (pc' := 78) (by decide) (by decide) dX12_readCond_76 rfl ?_
        refine w_bipush (pc' := 80) (by decide) (by decide) dX12_readCond_78 rfl ?_
        refine w_bipush (pc' := 82) (by decide) (by decide) dX12_readCond_80 rfl ?_
        refine w_iconst (pc' := 83) (by decide) dX12_readCond_82 rfl ?_
        refine w_iconst (pc' := 84) (by decide) dX12_readCond_83 rfl ?_
        refine w_iconst (pc' := 85) (by decide) dX12_readCond_84 rfl ?_
        refine v_callSE (pc' := 88) (st' := [gJ 1111, gR 133]) (d' := 0) (av := [gI 97, gI 110, gI 100, gI 0, gI 0, gI 0]) ms_mX12_spelt st_mX12_spelt lk_X12_412 rfl rfl (Nat.le_of_ble_eq_true rfl) (Nat.le_of_ble_eq_true rfl) dX12_readCond_85 rfl rfl (mg_speltE (σ := σl) (n := 1111) 97 110 100 0 0 0 (by decide)) ?_
        refine v_callVE (pc' := 91) (st' := [gI (gb (wdO k v = 15))]) (d' := 0) (av := [gJ 1111]) mi_mX12_isKey lk_X12_416 rfl ci_X12 kd_133 rfl (Nat.le_of_ble_eq_true rfl) (Nat.le_of_ble_eq_true rfl) dX12_readCond_88 rfl rfl (mg_isKeyE (σ := σl) (P := wdO k v = 15) (1111) (by rw [show (1111 : Int) = 1111 by decide]; exact TKS.key hTl kwc_15 (by decide) (by decide) (by decide))) ?_
        refine v_if_eqB (pc' := 94) (t := 138) dX12_readCond_91 rfl rfl (fun c_91 => ?_) (fun c_91 => ?_)
        · skip
          refine w_aload_n (pc' := 139) (i := 0) (by rfl) (by rfl) dX12_readCond_138 rfl ?_
          refine w_bipush (pc' := 141) (by decide) (by decide) dX12_readCond_139 rfl ?_
          refine w_bipush (pc' := 143) (by decide) (by decide) dX12_readCond_141 rfl ?_
          refine w_iconst (pc' := 144) (by decide) dX12_readCond_143 rfl ?_
          refine w_iconst (pc' := 145) (by decide) dX12_readCond_144 rfl ?_
          refine w_iconst (pc' := 146) (by decide) dX12_readCond_145 rfl ?_
          refine w_iconst (pc' := 147) (by decide) dX12_readCond_146 rfl ?_
          refine v_callSE (pc' := 150) (st' := [gJ 423, gR 133]) (d' := 0) (av := [gI 111, gI 114, gI 0, gI 0, gI 0, gI 0]) ms_mX12_spelt st_mX12_spelt lk_X12_412 rfl rfl (Nat.le_of_ble_eq_true rfl) (Nat.le_of_ble_eq_true rfl) dX12_readCond_147 rfl rfl (mg_speltE (σ := σl) (n := 423) 111 114 0 0 0 0 (by decide)) ?_
          refine v_callVE (pc' := 153) (st' := [gI (gb (wdO k v = 16))]) (d' := 0) (av := [gJ 423]) mi_mX12_isKey lk_X12_416 rfl ci_X12 kd_133 rfl (Nat.le_of_ble_eq_true rfl) (Nat.le_of_ble_eq_true rfl) dX12_readCond_150 rfl rfl (mg_isKeyE (σ := σl) (P := wdO k v = 16) (423) (by rw [show (423 : Int) = 423 by decide]; exact TKS.key hTl kwc_16 (by decide) (by decide) (by decide))) ?_
          refine v_if_eqB (pc' := 156) (t := 216) dX12_readCond_153 rfl rfl (fun c_153 => ?_) (fun c_153 => ?_)
          · skip
            refine w_aload_n (pc' := 217) (i := 0) (by rfl) (by rfl) dX12_readCond_216 rfl ?_
            refine w_bipush (pc' := 219) (by decide) (by decide) dX12_readCond_217 rfl ?_
            refine v_callVE (pc' := 222) (st' := [gI (gb (k = 41))]) (d' := 0) (av := [gI 41]) mi_mX12_isSign lk_X12_451 rfl ci_X12 kd_133 rfl (Nat.le_of_ble_eq_true rfl) (Nat.le_of_ble_eq_true rfl) dX12_readCond_219 rfl rfl (mg_isSignE (σ := σl) (P := k = 41) 41 (TKS.sign hTl (by decide))) ?_
            refine v_if_eqB (pc' := 225) (t := 296) dX12_readCond_222 rfl rfl (fun c_222 => ?_) (fun c_222 => ?_)
            · skip
              refine w_aload_n (pc' := 297) (i := 0) (by rfl) (by rfl) dX12_readCond_296 rfl ?_
              refine w_bipush (pc' := 299) (by decide) (by decide) dX12_readCond_297 rfl ?_
              refine v_callVE (pc' := 302) (st' := [gI (gb (k = 59))]) (d' := 0) (av := [gI 59]) mi_mX12_isSign lk_X12_451 rfl ci_X12 kd_133 rfl (Nat.le_of_ble_eq_true rfl) (Nat.le_of_ble_eq_true rfl) dX12_readCond_299 rfl rfl (mg_isSignE (σ := σl) (P := k = 59) 59 (TKS.sign hTl (by decide))) ?_
              refine v_if_eqB (pc' := 305) (t := 341) dX12_readCond_302 rfl rfl (fun c_302 => ?_) (fun c_302 => ?_)
              · skip
                refine w_aload_n (pc' := 342) (i := 0) (by rfl) (by rfl) dX12_readCond_341 rfl ?_
                refine w_iconst (pc' := 343) (by decide) dX12_readCond_342 rfl ?_
                refine w_callV (pc' := 346) (d' := 0) (av := [gI 1]) mi_mX12_bad lk_X12_409 rfl ci_X12 kd_133 rfl (Nat.le_of_ble_eq_true rfl) (Nat.le_of_ble_eq_true rfl) dX12_readCond_343 rfl (mg_bad (σ := σl) 1) (fun v_343 σ_343 q_343 => ?_)
                obtain ⟨rfl, y_343, rfl, hy_343⟩ := q_343
                refine Wp.heq (σ' := gUp (gUp σl 133 60 y_343) 133 61 (σl 133 56)) ((congrArg (fun z => gUp z 133 61 (σl 133 56)) rfl).trans rfl) ?_
                show Wp _ _ _ _ _ _ [gI 0]
                refine w_zreturn rfl (.inl rfl) dX12_readCond_346 ?_
                exact Or.inr ⟨rfl, BADE_mk hC.1 hC.2.1 hTl hC.2.2.1.1.1 (f := 1) (RC_bad h7l (by omega) (by omega) (by omega) (by omega)) (by decide) (Or.inl rfl) hy_343 rfl⟩
              · skip
                refine w_aload_n (pc' := 306) (i := 0) (by rfl) (by rfl) dX12_readCond_305 rfl ?_
                refine v_getI (pc' := 309) (ji := 81) rfl fg_X12_441 kd_133 dX12_readCond_306 rfl ?_
                refine w_if_ne (pc' := 312) (t := 341) dX12_readCond_309 rfl rfl (fun c_309 => ?_) (fun c_309 => ?_)
                · skip
                  refine w_aload_n (pc' := 342) (i := 0) (by rfl) (by rfl) dX12_readCond_341 rfl ?_
                  refine w_iconst (pc' := 343) (by decide) dX12_readCond_342 rfl ?_
                  refine w_callV (pc' := 346) (d' := 0) (av := [gI 1]) mi_mX12_bad lk_X12_409 rfl ci_X12 kd_133 rfl (Nat.le_of_ble_eq_true rfl) (Nat.le_of_ble_eq_true rfl) dX12_readCond_343 rfl (mg_bad (σ := σl) 1) (fun v_343 σ_343 q_343 => ?_)
                  obtain ⟨rfl, y_343, rfl, hy_343⟩ := q_343
                  refine Wp.heq (σ' := gUp (gUp σl 133 60 y_343) 133 61 (σl 133 56)) ((congrArg (fun z => gUp z 133 61 (σl 133 56)) rfl).trans rfl) ?_
                  show Wp _ _ _ _ _ _ [gI 0]
                  refine w_zreturn rfl (.inl rfl) dX12_readCond_346 ?_
                  exact Or.inr ⟨rfl, BADE_mk hC.1 hC.2.1 hTl hC.2.2.1.1.1 (f := 1) (RC_bad h7l (by omega) (by omega) (by omega) (by omega)) (by decide) (Or.inl rfl) hy_343 rfl⟩
                · skip
                  obtain ⟨mC, hmC⟩ : ∃ m, m = lkF (Sl 67) 16 (Sl 57 17).toNat := ⟨_, rfl⟩
                  have hpar := RC_par Il h7l hC.2.2.1
                  have hlb := links_br Il h7l
                  rw [← hmC] at hpar hlb
                  obtain ⟨hp1, hp2, hp3⟩ := hpar
                  have hb9 : Sl 57 15 = 0 := by omega
                  have hmC0 : mC = 0 := hlb.2 hb9
                  clear hp2 hlb
                  have hl_312 : ∀ (mm : Nat) (m pz : Int) (P : Int → Int), m.toNat = mm → (0 ≤ m ∧ m ≤ σl 133 79) → (pz = σl 133 83 + (σl 133 79 - m)) → (∀ i, m ≤ i → i < σl 133 79 → True) → (P = rvf (σl 180) (1200 + σl 133 83) (σl 133 79 - m) (σl 186) (σl 133 79)) → Wp mX12_readCond 4 (fun w σ' => (w = gI 1 ∧ RDN T L σ0 S0 S σ') ∨ (w = gI 0 ∧ BADE T L σ0 S0 σ')) (gUp (gUr (gUp σl 133 79 m) 180 P) 133 83 pz) 312 [gR 133, gI c, gI tl, gX 1] [] := by
                    intro m_312
                    induction m_312 using Nat.strongRecOn with
                    | _ m_312 ih_312 =>
                      intro m pz P hmeas_312 m0 hz hall hP
                      refine w_aload_n (pc' := 313) (i := 0) (by rfl) (by rfl) dX12_readCond_312 rfl ?_
                      refine v_getI (pc' := 316) (ji := 79) rfl fg_X12_429 kd_133 dX12_readCond_313 rfl ?_
                      show Wp _ _ _ _ _ _ [gI m]
                      refine w_if_le (pc' := 319) (t := 326) dX12_readCond_316 rfl rfl (fun c_316 => ?_) (fun c_316 => ?_)
                      · skip
                        have em : m = 0 := by omega
                        have hD := DRP_of hz hP
                        refine w_aload_n (pc' := 327) (i := 0) (by rfl) (by rfl) dX12_readCond_326 rfl ?_
                        refine w_getS (pc' := 330) (q := 179) fg_X12_157 kd_133 sf_X12_70 gr_133_70 dX12_readCond_327 rfl ?_
                        refine w_bipush (pc' := 332) (by decide) (by decide) dX12_readCond_330 rfl ?_
                        refine w_iload_n (pc' := 333) (i := 1) (by rfl) (by rfl) dX12_readCond_332 rfl ?_
                        refine v_iadd (pc' := 334) (by omega) dX12_readCond_333 rfl ?_
                        refine w_aload_n (pc' := 335) (i := 0) (by rfl) (by rfl) dX12_readCond_334 rfl ?_
                        refine v_getI (pc' := 338) (ji := 83) rfl fg_X12_426 kd_133 dX12_readCond_335 rfl ?_
                        show Wp _ _ _ _ _ _ [gI pz, gI (60 + c), gR 179]
                        refine w_iast (pc' := 339) kd_179 (by omega) (by omega) dX12_readCond_338 rfl ?_
                        refine w_iconst (pc' := 340) (by decide) dX12_readCond_339 rfl ?_
                        refine w_zreturn rfl (.inr rfl) dX12_readCond_340 ?_
                        rw [hD]
                        exact Or.inl ⟨rfl, RC_fin I0 hC h7l hTl (by omega) hb9 em hz hc⟩
                      · skip
                        refine w_aload_n (pc' := 320) (i := 0) (by rfl) (by rfl) dX12_readCond_319 rfl ?_
                        refine w_callV (pc' := 323) (d' := 1) (av := []) mi_mX12_drop lk_X12_435 rfl ci_X12 kd_133 rfl (Nat.le_of_ble_eq_true rfl) (Nat.le_of_ble_eq_true rfl) dX12_readCond_320 rfl (mp_drop (σ := gUp (gUr (gUp σl 133 79 m) 180 P) 133 83 pz) (show 0 < m ∧ m ≤ 140 by omega) (show 0 ≤ pz ∧ pz < 200 by omega)) (fun v_320 σ_320 q_320 => ?_)
                        obtain ⟨rfl, rfl⟩ := q_320
                        refine Wp.heq (σ' := gUp (gUr (gUp σl 133 79 (m - 1)) 180 (updI P (1200 + pz) (σl 186 (m - 1)))) 133 83 (pz + 1)) ((congrArg (fun z => gUp z 133 83 (pz + 1)) ((congrArg (fun z => gUp z 180 (1200 + pz) (σl 186 (m - 1))) ((gUp_ci (by decide)).trans (congrArg (fun z => gUp z 133 83 pz) ((gUp_cr (by decide)).trans (congrArg (fun z => gUr z 180 P) gUp_same))))).trans ((gUp_cu (by decide)).trans (congrArg (fun z => gUp z 133 83 pz) gUp_row)))).trans gUp_same) ?_
                        show Wp _ _ _ _ _ _ []
                        refine w_goto (pc' := 312) dX12_readCond_323 rfl ?_
                        exact ih_312 _ (by omega) (m - 1) (pz + 1) (updI P (1200 + pz) (σl 186 (m - 1))) rfl (by omega) (by omega) (by intro i a b; trivial) (by rw [hP, show 1200 + pz = 1200 + σl 133 83 + (σl 133 79 - m) by omega, show σl 186 (m - 1) = σl 186 (σl 133 79 - 1 - (σl 133 79 - m)) by rw [show σl 133 79 - 1 - (σl 133 79 - m) = m - 1 by omega], rvf_s (by omega), show σl 133 79 - m + 1 = σl 133 79 - (m - 1) by omega])
                  refine Wp.heq (σ' := gUp (gUr (gUp σl 133 79 (σl 133 79)) 180 (σl 180)) 133 83 (σl 133 83)) rowsD ?_
                  exact hl_312 _ (σl 133 79) (σl 133 83) (σl 180) rfl (by omega) (by omega) (by intro i a b; trivial) (by rw [Int.sub_self]; exact rvf_0.symm)
            · skip
              refine w_aload_n (pc' := 226) (i := 0) (by rfl) (by rfl) dX12_readCond_225 rfl ?_
              refine v_getI (pc' := 229) (ji := 81) rfl fg_X12_441 kd_133 dX12_readCond_226 rfl ?_
              refine w_if_le (pc' := 232) (t := 296) dX12_readCond_229 rfl rfl (fun c_229 => ?_) (fun c_229 => ?_)
              · skip
                refine w_aload_n (pc' := 297) (i := 0) (by rfl) (by rfl) dX12_readCond_296 rfl ?_
                refine w_bipush (pc' := 299) (by decide) (by decide) dX12_readCond_297 rfl ?_
                refine v_callVE (pc' := 302) (st' := [gI (gb (k = 59))]) (d' := 0) (av := [gI 59]) mi_mX12_isSign lk_X12_451 rfl ci_X12 kd_133 rfl (Nat.le_of_ble_eq_true rfl) (Nat.le_of_ble_eq_true rfl) dX12_readCond_299 rfl rfl (mg_isSignE (σ := σl) (P := k = 59) 59 (TKS.sign hTl (by decide))) ?_
                refine v_if_eqB (pc' := 305) (t := 341) dX12_readCond_302 rfl rfl (fun c_302 => ?_) (fun c_302 => ?_)
                · skip
                  refine w_aload_n (pc' := 342) (i := 0) (by rfl) (by rfl) dX12_readCond_341 rfl ?_
                  refine w_iconst (pc' := 343) (by decide) dX12_readCond_342 rfl ?_
                  refine w_callV (pc' := 346) (d' := 0) (av := [gI 1]) mi_mX12_bad lk_X12_409 rfl ci_X12 kd_133 rfl (Nat.le_of_ble_eq_true rfl) (Nat.le_of_ble_eq_true rfl) dX12_readCond_343 rfl (mg_bad (σ := σl) 1) (fun v_343 σ_343 q_343 => ?_)
                  obtain ⟨rfl, y_343, rfl, hy_343⟩ := q_343
                  refine Wp.heq (σ' := gUp (gUp σl 133 60 y_343) 133 61 (σl 133 56)) ((congrArg (fun z => gUp z 133 61 (σl 133 56)) rfl).trans rfl) ?_
                  show Wp _ _ _ _ _ _ [gI 0]
                  refine w_zreturn rfl (.inl rfl) dX12_readCond_346 ?_
                  exact Or.inr ⟨rfl, BADE_mk hC.1 hC.2.1 hTl hC.2.2.1.1.1 (f := 1) (RC_bad h7l (by omega) (by omega) (by omega) (by omega)) (by decide) (Or.inl rfl) hy_343 rfl⟩
                · skip
                  refine w_aload_n (pc' := 306) (i := 0) (by rfl) (by rfl) dX12_readCond_305 rfl ?_
                  refine v_getI (pc' := 309) (ji := 81) rfl fg_X12_441 kd_133 dX12_readCond_306 rfl ?_
                  refine w_if_ne (pc' := 312) (t := 341) dX12_readCond_309 rfl rfl (fun c_309 => ?_) (fun c_309 => ?_)
                  · skip
                    refine w_aload_n (pc' := 342) (i := 0) (by rfl) (by rfl) dX12_readCond_341 rfl ?_
                    refine w_iconst (pc' := 343) (by decide) dX12_readCond_342 rfl ?_
                    refine w_callV (pc' := 346) (d' := 0) (av := [gI 1]) mi_mX12_bad lk_X12_409 rfl ci_X12 kd_133 rfl (Nat.le_of_ble_eq_true rfl) (Nat.le_of_ble_eq_true rfl) dX12_readCond_343 rfl (mg_bad (σ := σl) 1) (fun v_343 σ_343 q_343 => ?_)
                    obtain ⟨rfl, y_343, rfl, hy_343⟩ := q_343
                    refine Wp.heq (σ' := gUp (gUp σl 133 60 y_343) 133 61 (σl 133 56)) ((congrArg (fun z => gUp z 133 61 (σl 133 56)) rfl).trans rfl) ?_
                    show Wp _ _ _ _ _ _ [gI 0]
                    refine w_zreturn rfl (.inl rfl) dX12_readCond_346 ?_
                    exact Or.inr ⟨rfl, BADE_mk hC.1 hC.2.1 hTl hC.2.2.1.1.1 (f := 1) (RC_bad h7l (by omega) (by omega) (by omega) (by omega)) (by decide) (Or.inl rfl) hy_343 rfl⟩
                  · skip
                    obtain ⟨mC, hmC⟩ : ∃ m, m = lkF (Sl 67) 16 (Sl 57 17).toNat := ⟨_, rfl⟩
                    have hpar := RC_par Il h7l hC.2.2.1
                    have hlb := links_br Il h7l
                    rw [← hmC] at hpar hlb
                    obtain ⟨hp1, hp2, hp3⟩ := hpar
                    have hb9 : Sl 57 15 = 0 := by omega
                    have hmC0 : mC = 0 := hlb.2 hb9
                    clear hp2 hlb
                    have hl_312 : ∀ (mm : Nat) (m pz : Int) (P : Int → Int), m.toNat = mm → (0 ≤ m ∧ m ≤ σl 133 79) → (pz = σl 133 83 + (σl 133 79 - m)) → (∀ i, m ≤ i → i < σl 133 79 → True) → (P = rvf (σl 180) (1200 + σl 133 83) (σl 133 79 - m) (σl 186) (σl 133 79)) → Wp mX12_readCond 4 (fun w σ' => (w = gI 1 ∧ RDN T L σ0 S0 S σ') ∨ (w = gI 0 ∧ BADE T L σ0 S0 σ')) (gUp (gUr (gUp σl 133 79 m) 180 P) 133 83 pz) 312 [gR 133, gI c, gI tl, gX 1] [] := by
                      intro m_312
                      induction m_312 using Nat.strongRecOn with
                      | _ m_312 ih_312 =>
                        intro m pz P hmeas_312 m0 hz hall hP
                        refine w_aload_n (pc' := 313) (i := 0) (by rfl) (by rfl) dX12_readCond_312 rfl ?_
                        refine v_getI (pc' := 316) (ji := 79) rfl fg_X12_429 kd_133 dX12_readCond_313 rfl ?_
                        show Wp _ _ _ _ _ _ [gI m]
                        refine w_if_le (pc' := 319) (t := 326) dX12_readCond_316 rfl rfl (fun c_316 => ?_) (fun c_316 => ?_)
                        · skip
                          have em : m = 0 := by omega
                          have hD := DRP_of hz hP
                          refine w_aload_n (pc' := 327) (i := 0) (by rfl) (by rfl) dX12_readCond_326 rfl ?_
                          refine w_getS (pc' := 330) (q := 179) fg_X12_157 kd_133 sf_X12_70 gr_133_70 dX12_readCond_327 rfl ?_
                          refine w_bipush (pc' := 332) (by decide) (by decide) dX12_readCond_330 rfl ?_
                          refine w_iload_n (pc' := 333) (i := 1) (by rfl) (by rfl) dX12_readCond_332 rfl ?_
                          refine v_iadd (pc' := 334) (by omega) dX12_readCond_333 rfl ?_
                          refine w_aload_n (pc' := 335) (i := 0) (by rfl) (by rfl) dX12_readCond_334 rfl ?_
                          refine v_getI (pc' := 338) (ji := 83) rfl fg_X12_426 kd_133 dX12_readCond_335 rfl ?_
                          show Wp _ _ _ _ _ _ [gI pz, gI (60 + c), gR 179]
                          refine w_iast (pc' := 339) kd_179 (by omega) (by omega) dX12_readCond_338 rfl ?_
                          refine w_iconst (pc' := 340) (by decide) dX12_readCond_339 rfl ?_
                          refine w_zreturn rfl (.inr rfl) dX12_readCond_340 ?_
                          rw [hD]
                          exact Or.inl ⟨rfl, RC_fin I0 hC h7l hTl (by omega) hb9 em hz hc⟩
                        · skip
                          refine w_aload_n (pc' := 320) (i := 0) (by rfl) (by rfl) dX12_readCond_319 rfl ?_
                          refine w_callV (pc' := 323) (d' := 1) (av := []) mi_mX12_drop lk_X12_435 rfl ci_X12 kd_133 rfl (Nat.le_of_ble_eq_true rfl) (Nat.le_of_ble_eq_true rfl) dX12_readCond_320 rfl (mp_drop (σ := gUp (gUr (gUp σl 133 79 m) 180 P) 133 83 pz) (show 0 < m ∧ m ≤ 140 by omega) (show 0 ≤ pz ∧ pz < 200 by omega)) (fun v_320 σ_320 q_320 => ?_)
                          obtain ⟨rfl, rfl⟩ := q_320
                          refine Wp.heq (σ' := gUp (gUr (gUp σl 133 79 (m - 1)) 180 (updI P (1200 + pz) (σl 186 (m - 1)))) 133 83 (pz + 1)) ((congrArg (fun z => gUp z 133 83 (pz + 1)) ((congrArg (fun z => gUp z 180 (1200 + pz) (σl 186 (m - 1))) ((gUp_ci (by decide)).trans (congrArg (fun z => gUp z 133 83 pz) ((gUp_cr (by decide)).trans (congrArg (fun z => gUr z 180 P) gUp_same))))).trans ((gUp_cu (by decide)).trans (congrArg (fun z => gUp z 133 83 pz) gUp_row)))).trans gUp_same) ?_
                          show Wp _ _ _ _ _ _ []
                          refine w_goto (pc' := 312) dX12_readCond_323 rfl ?_
                          exact ih_312 _ (by omega) (m - 1) (pz + 1) (updI P (1200 + pz) (σl 186 (m - 1))) rfl (by omega) (by omega) (by intro i a b; trivial) (by rw [hP, show 1200 + pz = 1200 + σl 133 83 + (σl 133 79 - m) by omega, show σl 186 (m - 1) = σl 186 (σl 133 79 - 1 - (σl 133 79 - m)) by rw [show σl 133 79 - 1 - (σl 133 79 - m) = m - 1 by omega], rvf_s (by omega), show σl 133 79 - m + 1 = σl 133 79 - (m - 1) by omega])
                    refine Wp.heq (σ' := gUp (gUr (gUp σl 133 79 (σl 133 79)) 180 (σl 180)) 133 83 (σl 133 83)) rowsD ?_
                    exact hl_312 _ (σl 133 79) (σl 133 83) (σl 180) rfl (by omega) (by omega) (by intro i a b; trivial) (by rw [Int.sub_self]; exact rvf_0.symm)
              · skip
                obtain ⟨mC, hmC⟩ : ∃ m, m = lkF (Sl 67) 16 (Sl 57 17).toNat := ⟨_, rfl⟩
                have hpar := RC_par Il h7l hC.2.2.1
                have hlb := links_br Il h7l
                rw [← hmC] at hpar hlb
                obtain ⟨hp1, hp2, hp3⟩ := hpar
                have hb9 : 0 < Sl 57 15 := by omega
                have hmC1 : 1 ≤ mC := hlb.1 hb9
                have hp23 : σl 186 (mC - 1) = 23 := hp2 (by omega)
                clear hp2 hlb
                have hl_232 : ∀ (mm : Nat) (m pz : Int) (P : Int → Int), m.toNat = mm → (mC ≤ m ∧ m ≤ σl 133 79) → (pz = σl 133 83 + (σl 133 79 - m)) → (∀ i, m ≤ i → i < σl 133 79 → True) → (P = rvf (σl 180) (1200 + σl 133 83) (σl 133 79 - m) (σl 186) (σl 133 79)) → Wp mX12_readCond 4 (fun w σ' => (w = gI 1 ∧ RDN T L σ0 S0 S σ') ∨ (w = gI 0 ∧ BADE T L σ0 S0 σ')) (gUp (gUr (gUp σl 133 79 m) 180 P) 133 83 pz) 232 [gR 133, gI c, gI tl, gX 1] [] := by
                  intro m_232
                  induction m_232 using Nat.strongRecOn with
                  | _ m_232 ih_232 =>
                    intro m pz P hmeas_232 m0 hz hall hP
                    refine w_aload_n (pc' := 233) (i := 0) (by rfl) (by rfl) dX12_readCond_232 rfl ?_
                    refine w_getS (pc' := 236) (q := 186) fg_X12_178 kd_133 sf_X12_78 gr_133_78 dX12_readCond_233 rfl ?_
                    refine w_aload_n (pc' := 237) (i := 0) (by rfl) (by rfl) dX12_readCond_236 rfl ?_
                    refine v_getI (pc' := 240) (ji := 79) rfl fg_X12_429 kd_133 dX12_readCond_237 rfl ?_
                    show Wp _ _ _ _ _ _ [gI m, gR 186]
                    refine w_iconst (pc' := 241) (by decide) dX12_readCond_240 rfl ?_
                    refine v_isub (pc' := 242) (by omega) dX12_readCond_241 rfl ?_
                    refine w_iald (pc' := 243) kd_186 (by omega) (by omega) dX12_readCond_242 rfl ?_
                    show Wp _ _ _ _ _ _ [gI (σl 186 (m - 1))]
                    refine w_bipush (pc' := 245) (by decide) (by decide) dX12_readCond_243 rfl ?_
                    refine w_icmp_eq (pc' := 248) (t := 255) dX12_readCond_245 rfl rfl (fun c_245 => ?_) (fun c_245 => ?_)
                    · skip
                      have em : m = mC := by
                        by_cases e : m = mC
                        · exact e
                        · have := hp3 (m - 1) (by omega) (by omega); omega
                      have hD := DRP_of hz hP
                      have hkk : k = 41 := by omega
                      have ht55l : σl 133 55 = q := hto () (by omega)
                      refine w_aload_n (pc' := 256) (i := 0) (by rfl) (by rfl) dX12_readCond_255 rfl ?_
                      refine w_dup (pc' := 257) dX12_readCond_256 rfl ?_
                      refine v_getI (pc' := 260) (ji := 79) rfl fg_X12_429 kd_133 dX12_readCond_257 rfl ?_
                      show Wp _ _ _ _ _ _ [gI m, gR 133]
                      refine w_iconst (pc' := 261) (by decide) dX12_readCond_260 rfl ?_
                      refine v_isub (pc' := 262) (by omega) dX12_readCond_261 rfl ?_
                      refine v_putI (pc' := 265) (ji := 79) rfl fp_X12_429 kd_133 sf_X12_79 dX12_readCond_262 rfl ?_
                      refine Wp.heq (σ' := gUp (gUr (gUp σl 133 79 (m - 1)) 180 P) 133 83 pz) ((gUp_ci (by decide)).trans (congrArg (fun z => gUp z 133 83 pz) ((gUp_cr (by decide)).trans (congrArg (fun z => gUr z 180 P) gUp_same)))) ?_
                      refine w_aload_n (pc' := 266) (i := 0) (by rfl) (by rfl) dX12_readCond_265 rfl ?_
                      refine w_dup (pc' := 267) dX12_readCond_266 rfl ?_
                      refine v_getI (pc' := 270) (ji := 80) rfl fg_X12_438 kd_133 dX12_readCond_267 rfl ?_
                      show Wp _ _ _ _ _ _ [gI (σl 133 80), gR 133]
                      refine w_iconst (pc' := 271) (by decide) dX12_readCond_270 rfl ?_
                      refine v_isub (pc' := 272) (by omega) dX12_readCond_271 rfl ?_
                      refine v_putI (pc' := 275) (ji := 80) rfl fp_X12_438 kd_133 sf_X12_80 dX12_readCond_272 rfl ?_
                      refine w_aload_n (pc' := 276) (i := 0) (by rfl) (by rfl) dX12_readCond_275 rfl ?_
                      refine w_dup (pc' := 277) dX12_readCond_276 rfl ?_
                      refine v_getI (pc' := 280) (ji := 81) rfl fg_X12_441 kd_133 dX12_readCond_277 rfl ?_
                      show Wp _ _ _ _ _ _ [gI (σl 133 81), gR 133]
                      refine w_iconst (pc' := 281) (by decide) dX12_readCond_280 rfl ?_
                      refine v_isub (pc' := 282) (by omega) dX12_readCond_281 rfl ?_
                      refine v_putI (pc' := 285) (ji := 81) rfl fp_X12_441 kd_133 sf_X12_81 dX12_readCond_282 rfl ?_
                      refine w_aload_n (pc' := 286) (i := 0) (by rfl) (by rfl) dX12_readCond_285 rfl ?_
                      refine w_callV (pc' := 289) (d' := 1) (av := []) mi_mX12_go lk_X12_444 rfl ci_X12 kd_133 rfl (Nat.le_of_ble_eq_true rfl) (Nat.le_of_ble_eq_true rfl) dX12_readCond_286 rfl (mg_go (σ := gUp (gUp (gUp (gUr (gUp σl 133 79 (m - 1)) 180 P) 133 83 pz) 133 80 ((σl 133 80) - 1)) 133 81 ((σl 133 81) - 1)) (show σl 133 54 ≤ 540 by omega) (show 0 ≤ σl 133 55 ∧ σl 133 55 ≤ σl 133 54 by omega)) (fun v_286 σ286 q_286 => ?_)
                      obtain ⟨rfl, hk_286, ht_286⟩ := q_286
                      show Wp _ _ _ _ _ _ []
                      have hk9 : KG (gUp (gUp (gUp (DRP σl m) 133 79 (m - 1)) 133 80 (σl 133 80 - 1)) 133 81 (σl 133 81 - 1)) σ286 := by
                        rw [DRP_top, ← hz, ← hP]; exact hk_286
                      have e79_286 : σ286 133 79 = m - 1 := hk_286.rd rfl
                      have e80_286 : σ286 133 80 = σl 133 80 - 1 := hk_286.rd rfl
                      have e83_286 : σ286 133 83 = pz := hk_286.rd rfl
                      refine w_aload_n (pc' := 290) (i := 0) (by rfl) (by rfl) dX12_readCond_289 rfl ?_
                      refine w_callV (pc' := 293) (d' := 2) (av := []) mi_mX12_turnNots lk_X12_463 rfl ci_X12 kd_133 rfl (Nat.le_of_ble_eq_true rfl) (Nat.le_of_ble_eq_true rfl) dX12_readCond_290 rfl (mp_turnNots (σ := σ286) (show 0 ≤ σ286 133 79 ∧ σ286 133 79 ≤ 140 by omega) (show 0 ≤ σ286 133 83 ∧ σ286 133 83 + σ286 133 79 ≤ 200 by omega) (show -1000 ≤ σ286 133 80 ∧ σ286 133 80 ≤ 1000 by omega)) (fun v_290 σ_290 q_290 => ?_)
                      obtain ⟨m_290, rfl, hN_290, rfl⟩ := q_290
                      show Wp _ _ _ _ _ _ []
                      obtain ⟨S9, hC9, g7, g6⟩ := RC_unb I0 hC h7l hTl hkk hb9 (em.trans hmC) rfl rfl rfl hk9 (ht_286.tr e134l hL54l ht55l) hN_290
                      have hw9 : ∀ _ : Unit, (S9 57 6 = 4 ∧ (gUp (gUp (gUr (gUp σ286 133 79 m_290) 180 (pfl (σ286 180) (1200 + (σ286 133 83)) ((σ286 133 79) - m_290) 20)) 133 83 ((σ286 133 83) + ((σ286 133 79) - m_290))) 133 80 ((σ286 133 80) - ((σ286 133 79) - m_290))) 133 84 = 0) ∨ (S9 57 6 = 7 ∧ (gUp (gUp (gUr (gUp σ286 133 79 m_290) 180 (pfl (σ286 180) (1200 + (σ286 133 83)) ((σ286 133 79) - m_290) 20)) 133 83 ((σ286 133 83) + ((σ286 133 79) - m_290))) 133 80 ((σ286 133 80) - ((σ286 133 79) - m_290))) 133 84 = 1) := fun _ => Or.inr ⟨g7, (show σ286 133 84 = 1 from (hk_286.rd (k := 133) (i := 84) rfl).trans (by show σl 133 84 = 1; have := hwh (); omega))⟩
                      refine w_goto (pc' := 33) dX12_readCond_293 rfl ?_
                      exact ih_33 _ (by omega) (gUp (gUp (gUr (gUp σ286 133 79 m_290) 180 (pfl (σ286 180) (1200 + (σ286 133 83)) ((σ286 133 79) - m_290) 20)) 133 83 ((σ286 133 83) + ((σ286 133 79) - m_290))) 133 80 ((σ286 133 80) - ((σ286 133 79) - m_290))) S9 rfl (by exact hC9) (by exact hw9)
                    · skip
                      refine w_aload_n (pc' := 249) (i := 0) (by rfl) (by rfl) dX12_readCond_248 rfl ?_
                      refine w_callV (pc' := 252) (d' := 1) (av := []) mi_mX12_drop lk_X12_435 rfl ci_X12 kd_133 rfl (Nat.le_of_ble_eq_true rfl) (Nat.le_of_ble_eq_true rfl) dX12_readCond_249 rfl (mp_drop (σ := gUp (gUr (gUp σl 133 79 m) 180 P) 133 83 pz) (show 0 < m ∧ m ≤ 140 by omega) (show 0 ≤ pz ∧ pz < 200 by omega)) (fun v_249 σ_249 q_249 => ?_)
                      obtain ⟨rfl, rfl⟩ := q_249
                      refine Wp.heq (σ' := gUp (gUr (gUp σl 133 79 (m - 1)) 180 (updI P (1200 + pz) (σl 186 (m - 1)))) 133 83 (pz + 1)) ((congrArg (fun z => gUp z 133 83 (pz + 1)) ((congrArg (fun z => gUp z 180 (1200 + pz) (σl 186 (m - 1))) ((gUp_ci (by decide)).trans (congrArg (fun z => gUp z 133 83 pz) ((gUp_cr (by decide)).trans (congrArg (fun z => gUr z 180 P) gUp_same))))).trans ((gUp_cu (by decide)).trans (congrArg (fun z => gUp z 133 83 pz) gUp_row)))).trans gUp_same) ?_
                      show Wp _ _ _ _ _ _ []
                      refine w_goto (pc' := 232) dX12_readCond_252 rfl ?_
                      exact ih_232 _ (by omega) (m - 1) (pz + 1) (updI P (1200 + pz) (σl 186 (m - 1))) rfl (by (by_cases e : m = mC; (exfalso; rw [e] at c_245; omega); omega)) (by omega) (by intro i a b; trivial) (by rw [hP, show 1200 + pz = 1200 + σl 133 83 + (σl 133 79 - m) by omega, show σl 186 (m - 1) = σl 186 (σl 133 79 - 1 - (σl 133 79 - m)) by rw [show σl 133 79 - 1 - (σl 133 79 - m) = m - 1 by omega], rvf_s (by omega), show σl 133 79 - m + 1 = σl 133 79 - (m - 1) by omega])
                refine Wp.heq (σ' := gUp (gUr (gUp σl 133 79 (σl 133 79)) 180 (σl 180)) 133 83 (σl 133 83)) rowsD ?_
                exact hl_232 _ (σl 133 79) (σl 133 83) (σl 180) rfl (by omega) (by omega) (by intro i a b; trivial) (by rw [Int.sub_self]; exact rvf_0.symm)
          · skip
            have hl_156 : ∀ (mm : Nat) (m pz : Int) (P : Int → Int), m.toNat = mm → (0 ≤ m ∧ m ≤ σl 133 79) → (pz = σl 133 83 + (σl 133 79 - m)) → (∀ i, m ≤ i → i < σl 133 79 → σl 186 i = 21 ∨ σl 186 i = 22) → (P = rvf (σl 180) (1200 + σl 133 83) (σl 133 79 - m) (σl 186) (σl 133 79)) → Wp mX12_readCond 4 (fun w σ' => (w = gI 1 ∧ RDN T L σ0 S0 S σ') ∨ (w = gI 0 ∧ BADE T L σ0 S0 σ')) (gUp (gUr (gUp σl 133 79 m) 180 P) 133 83 pz) 156 [gR 133, gI c, gI tl, gX 1] [] := by
              intro m_156
              induction m_156 using Nat.strongRecOn with
              | _ m_156 ih_156 =>
                intro m pz P hmeas_156 m0 hz hall hP
                refine w_aload_n (pc' := 157) (i := 0) (by rfl) (by rfl) dX12_readCond_156 rfl ?_
                refine v_getI (pc' := 160) (ji := 79) rfl fg_X12_429 kd_133 dX12_readCond_157 rfl ?_
                show Wp _ _ _ _ _ _ [gI m]
                refine w_if_le (pc' := 163) (t := 202) dX12_readCond_160 rfl rfl (fun c_160 => ?_) (fun c_160 => ?_)
                · skip
                  have em : m = lkF (Sl 67) 16 (Sl 57 17).toNat := by
                    have C9 := (hCC ()).1
                    have p9 := hpil ()
                    refine LKS_pile C9.2.1 (by omega) p9 (by omega) (fun i a b => ?_) (fun h => ?_)
                    · have := hall i a (by omega); exact this
                    · exact ⟨by omega, show σl 186 (m - 1) ≠ 22 by omega⟩
                  have hD := DRP_of hz hP
                  have hkk : k ≠ 0 := by have := wdO_k (w := 16) (k := k) (v := v) (by decide) (by omega); omega
                  have ht55l : σl 133 55 = q := hto () hkk
                  refine w_aload_n (pc' := 203) (i := 0) (by rfl) (by rfl) dX12_readCond_202 rfl ?_
                  refine w_bipush (pc' := 205) (by decide) (by decide) dX12_readCond_203 rfl ?_
                  refine w_callV (pc' := 208) (d' := 2) (av := [gI 22]) mi_mX12_push lk_X12_457 rfl ci_X12 kd_133 rfl (Nat.le_of_ble_eq_true rfl) (Nat.le_of_ble_eq_true rfl) dX12_readCond_205 rfl (mp_push (σ := gUp (gUr (gUp σl 133 79 m) 180 P) 133 83 pz) (show σl 133 54 ≤ 540 by omega) (show 0 ≤ σl 133 55 ∧ σl 133 55 ≤ σl 133 54 by omega) 22 (by omega) (show 0 ≤ m ∧ m < 140 by omega) (show 0 ≤ σl 133 80 ∧ σl 133 80 < 140 by omega) (show 0 ≤ σl 133 81 ∧ σl 133 81 < 140 by omega)) (fun v_205 σ205 q_205 => ?_)
                  obtain ⟨rfl, hk_205, ht_205⟩ := q_205
                  show Wp _ _ _ _ _ _ []
                  obtain ⟨S9, hC9, g4, g6, _⟩ := RC_and I0 hC h7l hTl (x := 16) (y := 22) (by omega) (by omega) em rfl (hD ▸ hk_205) (ht_205.tr e134l hL54l ht55l)
                  have hw9 : ∀ _ : Unit, (S9 57 6 = 4 ∧ (gUp σ205 133 84 0) 133 84 = 0) ∨ (S9 57 6 = 7 ∧ (gUp σ205 133 84 0) 133 84 = 1) := fun _ => Or.inl ⟨g4, rfl⟩
                  refine w_aload_n (pc' := 209) (i := 0) (by rfl) (by rfl) dX12_readCond_208 rfl ?_
                  refine w_iconst (pc' := 210) (by decide) dX12_readCond_209 rfl ?_
                  refine v_putZ (pc' := 213) (ji := 84) (.inl rfl) rfl fp_X12_466 kd_133 sf_X12_84 dX12_readCond_210 rfl ?_
                  refine w_goto (pc' := 33) dX12_readCond_213 rfl ?_
                  exact ih_33 _ (by omega) (gUp σ205 133 84 0) S9 rfl (by exact hC9) (by exact hw9)
                · skip
                  refine w_aload_n (pc' := 164) (i := 0) (by rfl) (by rfl) dX12_readCond_163 rfl ?_
                  refine w_getS (pc' := 167) (q := 186) fg_X12_178 kd_133 sf_X12_78 gr_133_78 dX12_readCond_164 rfl ?_
                  refine w_aload_n (pc' := 168) (i := 0) (by rfl) (by rfl) dX12_readCond_167 rfl ?_
                  refine v_getI (pc' := 171) (ji := 79) rfl fg_X12_429 kd_133 dX12_readCond_168 rfl ?_
                  show Wp _ _ _ _ _ _ [gI m, gR 186]
                  refine w_iconst (pc' := 172) (by decide) dX12_readCond_171 rfl ?_
                  refine v_isub (pc' := 173) (by omega) dX12_readCond_172 rfl ?_
                  refine w_iald (pc' := 174) kd_186 (by omega) (by omega) dX12_readCond_173 rfl ?_
                  show Wp _ _ _ _ _ _ [gI (σl 186 (m - 1))]
                  refine w_bipush (pc' := 176) (by decide) (by decide) dX12_readCond_174 rfl ?_
                  refine w_icmp_eq (pc' := 179) (t := 195) dX12_readCond_176 rfl rfl (fun c_176 => ?_) (fun c_176 => ?_)
                  · skip
                    refine w_aload_n (pc' := 196) (i := 0) (by rfl) (by rfl) dX12_readCond_195 rfl ?_
                    refine w_callV (pc' := 199) (d' := 1) (av := []) mi_mX12_drop lk_X12_435 rfl ci_X12 kd_133 rfl (Nat.le_of_ble_eq_true rfl) (Nat.le_of_ble_eq_true rfl) dX12_readCond_196 rfl (mp_drop (σ := gUp (gUr (gUp σl 133 79 m) 180 P) 133 83 pz) (show 0 < m ∧ m ≤ 140 by omega) (show 0 ≤ pz ∧ pz < 200 by omega)) (fun v_196 σ_196 q_196 => ?_)
                    obtain ⟨rfl, rfl⟩ := q_196
                    refine Wp.heq (σ' := gUp (gUr (gUp σl 133 79 (m - 1)) 180 (updI P (1200 + pz) (σl 186 (m - 1)))) 133 83 (pz + 1)) ((congrArg (fun z => gUp z 133 83 (pz + 1)) ((congrArg (fun z => gUp z 180 (1200 + pz) (σl 186 (m - 1))) ((gUp_ci (by decide)).trans (congrArg (fun z => gUp z 133 83 pz) ((gUp_cr (by decide)).trans (congrArg (fun z => gUr z 180 P) gUp_same))))).trans ((gUp_cu (by decide)).trans (congrArg (fun z => gUp z 133 83 pz) gUp_row)))).trans gUp_same) ?_
                    show Wp _ _ _ _ _ _ []
                    refine w_goto (pc' := 156) dX12_readCond_199 rfl ?_
                    exact ih_156 _ (by omega) (m - 1) (pz + 1) (updI P (1200 + pz) (σl 186 (m - 1))) rfl (by omega) (by omega) (by intro i a b; by_cases e : i = m - 1; (rw [e]; omega); exact hall i (by omega) b) (by rw [hP, show 1200 + pz = 1200 + σl 133 83 + (σl 133 79 - m) by omega, show σl 186 (m - 1) = σl 186 (σl 133 79 - 1 - (σl 133 79 - m)) by rw [show σl 133 79 - 1 - (σl 133 79 - m) = m - 1 by omega], rvf_s (by omega), show σl 133 79 - m + 1 = σl 133 79 - (m - 1) by omega])
                  · skip
                    refine w_aload_n (pc' := 180) (i := 0) (by rfl) (by rfl) dX12_readCond_179 rfl ?_
                    refine w_getS (pc' := 183) (q := 186) fg_X12_178 kd_133 sf_X12_78 gr_133_78 dX12_readCond_180 rfl ?_
                    refine w_aload_n (pc' := 184) (i := 0) (by rfl) (by rfl) dX12_readCond_183 rfl ?_
                    refine v_getI (pc' := 187) (ji := 79) rfl fg_X12_429 kd_133 dX12_readCond_184 rfl ?_
                    show Wp _ _ _ _ _ _ [gI m, gR 186]
                    refine w_iconst (pc' := 188) (by decide) dX12_readCond_187 rfl ?_
                    refine v_isub (pc' := 189) (by omega) dX12_readCond_188 rfl ?_
                    refine w_iald (pc' := 190) kd_186 (by omega) (by omega) dX12_readCond_189 rfl ?_
                    show Wp _ _ _ _ _ _ [gI (σl 186 (m - 1))]
                    refine w_bipush (pc' := 192) (by decide) (by decide) dX12_readCond_190 rfl ?_
                    refine w_icmp_ne (pc' := 195) (t := 202) dX12_readCond_192 rfl rfl (fun c_192 => ?_) (fun c_192 => ?_)
                    · skip
                      have em : m = lkF (Sl 67) 16 (Sl 57 17).toNat := by
                        have C9 := (hCC ()).1
                        have p9 := hpil ()
                        refine LKS_pile C9.2.1 (by omega) p9 (by omega) (fun i a b => ?_) (fun h => ?_)
                        · have := hall i a (by omega); exact this
                        · exact ⟨by omega, show σl 186 (m - 1) ≠ 22 by omega⟩
                      have hD := DRP_of hz hP
                      have hkk : k ≠ 0 := by have := wdO_k (w := 16) (k := k) (v := v) (by decide) (by omega); omega
                      have ht55l : σl 133 55 = q := hto () hkk
                      refine w_aload_n (pc' := 203) (i := 0) (by rfl) (by rfl) dX12_readCond_202 rfl ?_
                      refine w_bipush (pc' := 205) (by decide) (by decide) dX12_readCond_203 rfl ?_
                      refine w_callV (pc' := 208) (d' := 2) (av := [gI 22]) mi_mX12_push lk_X12_457 rfl ci_X12 kd_133 rfl (Nat.le_of_ble_eq_true rfl) (Nat.le_of_ble_eq_true rfl) dX12_readCond_205 rfl (mp_push (σ := gUp (gUr (gUp σl 133 79 m) 180 P) 133 83 pz) (show σl 133 54 ≤ 540 by omega) (show 0 ≤ σl 133 55 ∧ σl 133 55 ≤ σl 133 54 by omega) 22 (by omega) (show 0 ≤ m ∧ m < 140 by omega) (show 0 ≤ σl 133 80 ∧ σl 133 80 < 140 by omega) (show 0 ≤ σl 133 81 ∧ σl 133 81 < 140 by omega)) (fun v_205 σ205 q_205 => ?_)
                      obtain ⟨rfl, hk_205, ht_205⟩ := q_205
                      show Wp _ _ _ _ _ _ []
                      obtain ⟨S9, hC9, g4, g6, _⟩ := RC_and I0 hC h7l hTl (x := 16) (y := 22) (by omega) (by omega) em rfl (hD ▸ hk_205) (ht_205.tr e134l hL54l ht55l)
                      have hw9 : ∀ _ : Unit, (S9 57 6 = 4 ∧ (gUp σ205 133 84 0) 133 84 = 0) ∨ (S9 57 6 = 7 ∧ (gUp σ205 133 84 0) 133 84 = 1) := fun _ => Or.inl ⟨g4, rfl⟩
                      refine w_aload_n (pc' := 209) (i := 0) (by rfl) (by rfl) dX12_readCond_208 rfl ?_
                      refine w_iconst (pc' := 210) (by decide) dX12_readCond_209 rfl ?_
                      refine v_putZ (pc' := 213) (ji := 84) (.inl rfl) rfl fp_X12_466 kd_133 sf_X12_84 dX12_readCond_210 rfl ?_
                      refine w_goto (pc' := 33) dX12_readCond_213 rfl ?_
                      exact ih_33 _ (by omega) (gUp σ205 133 84 0) S9 rfl (by exact hC9) (by exact hw9)
                    · skip
                      refine w_aload_n (pc' := 196) (i := 0) (by rfl) (by rfl) dX12_readCond_195 rfl ?_
                      refine w_callV (pc' := 199) (d' := 1) (av := []) mi_mX12_drop lk_X12_435 rfl ci_X12 kd_133 rfl (Nat.le_of_ble_eq_true rfl) (Nat.le_of_ble_eq_true rfl) dX12_readCond_196 rfl (mp_drop (σ := gUp (gUr (gUp σl 133 79 m) 180 P) 133 83 pz) (show 0 < m ∧ m ≤ 140 by omega) (show 0 ≤ pz ∧ pz < 200 by omega)) (fun v_196 σ_196 q_196 => ?_)
                      obtain ⟨rfl, rfl⟩ := q_196
                      refine Wp.heq (σ' := gUp (gUr (gUp σl 133 79 (m - 1)) 180 (updI P (1200 + pz) (σl 186 (m - 1)))) 133 83 (pz + 1)) ((congrArg (fun z => gUp z 133 83 (pz + 1)) ((congrArg (fun z => gUp z 180 (1200 + pz) (σl 186 (m - 1))) ((gUp_ci (by decide)).trans (congrArg (fun z => gUp z 133 83 pz) ((gUp_cr (by decide)).trans (congrArg (fun z => gUr z 180 P) gUp_same))))).trans ((gUp_cu (by decide)).trans (congrArg (fun z => gUp z 133 83 pz) gUp_row)))).trans gUp_same) ?_
                      show Wp _ _ _ _ _ _ []
                      refine w_goto (pc' := 156) dX12_readCond_199 rfl ?_
                      exact ih_156 _ (by omega) (m - 1) (pz + 1) (updI P (1200 + pz) (σl 186 (m - 1))) rfl (by omega) (by omega) (by intro i a b; by_cases e : i = m - 1; (rw [e]; omega); exact hall i (by omega) b) (by rw [hP, show 1200 + pz = 1200 + σl 133 83 + (σl 133 79 - m) by omega, show σl 186 (m - 1) = σl 186 (σl 133 79 - 1 - (σl 133 79 - m)) by rw [show σl 133 79 - 1 - (σl 133 79 - m) = m - 1 by omega], rvf_s (by omega), show σl 133 79 - m + 1 = σl 133 79 - (m - 1) by omega])
            refine Wp.heq (σ' := gUp (gUr (gUp σl 133 79 (σl 133 79)) 180 (σl 180)) 133 83 (σl 133 83)) rowsD ?_
            exact hl_156 _ (σl 133 79) (σl 133 83) (σl 180) rfl (by omega) (by omega) (by intro i a b; omega) (by rw [Int.sub_self]; exact rvf_0.symm)
        · skip
          have hl_94 : ∀ (mm : Nat) (m pz : Int) (P : Int → Int), m.toNat = mm → (0 ≤ m ∧ m ≤ σl 133 79) → (pz = σl 133 83 + (σl 133 79 - m)) → (∀ i, m ≤ i → i < σl 133 79 → σl 186 i = 21) → (P = rvf (σl 180) (1200 + σl 133 83) (σl 133 79 - m) (σl 186) (σl 133 79)) → Wp mX12_readCond 4 (fun w σ' => (w = gI 1 ∧ RDN T L σ0 S0 S σ') ∨ (w = gI 0 ∧ BADE T L σ0 S0 σ')) (gUp (gUr (gUp σl 133 79 m) 180 P) 133 83 pz) 94 [gR 133, gI c, gI tl, gX 1] [] := by
            intro m_94
            induction m_94 using Nat.strongRecOn with
            | _ m_94 ih_94 =>
              intro m pz P hmeas_94 m0 hz hall hP
              refine w_aload_n (pc' := 95) (i := 0) (by rfl) (by rfl) dX12_readCond_94 rfl ?_
              refine v_getI (pc' := 98) (ji := 79) rfl fg_X12_429 kd_133 dX12_readCond_95 rfl ?_
              show Wp _ _ _ _ _ _ [gI m]
              refine w_if_le (pc' := 101) (t := 124) dX12_readCond_98 rfl rfl (fun c_98 => ?_) (fun c_98 => ?_)
              · skip
                have em : m = lkF (Sl 67) 15 (Sl 57 17).toNat := by
                  have C9 := (hCC ()).1
                  have p9 := hpil ()
                  refine LKS_pile C9.2.1 (by omega) p9 (by omega) (fun i a b => ?_) (fun h => ?_)
                  · have := hall i a (by omega); exact Or.inl this
                  · exact ⟨by omega, show σl 186 (m - 1) ≠ 21 by omega⟩
                have hD := DRP_of hz hP
                have hkk : k ≠ 0 := by have := wdO_k (w := 15) (k := k) (v := v) (by decide) (by omega); omega
                have ht55l : σl 133 55 = q := hto () hkk
                refine w_aload_n (pc' := 125) (i := 0) (by rfl) (by rfl) dX12_readCond_124 rfl ?_
                refine w_bipush (pc' := 127) (by decide) (by decide) dX12_readCond_125 rfl ?_
                refine w_callV (pc' := 130) (d' := 2) (av := [gI 21]) mi_mX12_push lk_X12_457 rfl ci_X12 kd_133 rfl (Nat.le_of_ble_eq_true rfl) (Nat.le_of_ble_eq_true rfl) dX12_readCond_127 rfl (mp_push (σ := gUp (gUr (gUp σl 133 79 m) 180 P) 133 83 pz) (show σl 133 54 ≤ 540 by omega) (show 0 ≤ σl 133 55 ∧ σl 133 55 ≤ σl 133 54 by omega) 21 (by omega) (show 0 ≤ m ∧ m < 140 by omega) (show 0 ≤ σl 133 80 ∧ σl 133 80 < 140 by omega) (show 0 ≤ σl 133 81 ∧ σl 133 81 < 140 by omega)) (fun v_127 σ127 q_127 => ?_)
                obtain ⟨rfl, hk_127, ht_127⟩ := q_127
                show Wp _ _ _ _ _ _ []
                obtain ⟨S9, hC9, g4, g6, _⟩ := RC_and I0 hC h7l hTl (x := 15) (y := 21) (by omega) (by omega) em rfl (hD ▸ hk_127) (ht_127.tr e134l hL54l ht55l)
                have hw9 : ∀ _ : Unit, (S9 57 6 = 4 ∧ (gUp σ127 133 84 0) 133 84 = 0) ∨ (S9 57 6 = 7 ∧ (gUp σ127 133 84 0) 133 84 = 1) := fun _ => Or.inl ⟨g4, rfl⟩
                refine w_aload_n (pc' := 131) (i := 0) (by rfl) (by rfl) dX12_readCond_130 rfl ?_
                refine w_iconst (pc' := 132) (by decide) dX12_readCond_131 rfl ?_
                refine v_putZ (pc' := 135) (ji := 84) (.inl rfl) rfl fp_X12_466 kd_133 sf_X12_84 dX12_readCond_132 rfl ?_
                refine w_goto (pc' := 33) dX12_readCond_135 rfl ?_
                exact ih_33 _ (by omega) (gUp σ127 133 84 0) S9 rfl (by exact hC9) (by exact hw9)
              · skip
                refine w_aload_n (pc' := 102) (i := 0) (by rfl) (by rfl) dX12_readCond_101 rfl ?_
                refine w_getS (pc' := 105) (q := 186) fg_X12_178 kd_133 sf_X12_78 gr_133_78 dX12_readCond_102 rfl ?_
                refine w_aload_n (pc' := 106) (i := 0) (by rfl) (by rfl) dX12_readCond_105 rfl ?_
                refine v_getI (pc' := 109) (ji := 79) rfl fg_X12_429 kd_133 dX12_readCond_106 rfl ?_
                show Wp _ _ _ _ _ _ [gI m, gR 186]
                refine w_iconst (pc' := 110) (by decide) dX12_readCond_109 rfl ?_
                refine v_isub (pc' := 111) (by omega) dX12_readCond_110 rfl ?_
                refine w_iald (pc' := 112) kd_186 (by omega) (by omega) dX12_readCond_111 rfl ?_
                show Wp _ _ _ _ _ _ [gI (σl 186 (m - 1))]
                refine w_bipush (pc' := 114) (by decide) (by decide) dX12_readCond_112 rfl ?_
                refine w_icmp_ne (pc' := 117) (t := 124) dX12_readCond_114 rfl rfl (fun c_114 => ?_) (fun c_114 => ?_)
                · skip
                  have em : m = lkF (Sl 67) 15 (Sl 57 17).toNat := by
                    have C9 := (hCC ()).1
                    have p9 := hpil ()
                    refine LKS_pile C9.2.1 (by omega) p9 (by omega) (fun i a b => ?_) (fun h => ?_)
                    · have := hall i a (by omega); exact Or.inl this
                    · exact ⟨by omega, show σl 186 (m - 1) ≠ 21 by omega⟩
                  have hD := DRP_of hz hP
                  have hkk : k ≠ 0 := by have := wdO_k (w := 15) (k := k) (v := v) (by decide) (by omega); omega
                  have ht55l : σl 133 55 = q := hto () hkk
                  refine w_aload_n (pc' := 125) (i := 0) (by rfl) (by rfl) dX12_readCond_124 rfl ?_
                  refine w_bipush (pc' := 127) (by decide) (by decide) dX12_readCond_125 rfl ?_
                  refine w_callV (pc' := 130) (d' := 2) (av := [gI 21]) mi_mX12_push lk_X12_457 rfl ci_X12 kd_133 rfl (Nat.le_of_ble_eq_true rfl) (Nat.le_of_ble_eq_true rfl) dX12_readCond_127 rfl (mp_push (σ := gUp (gUr (gUp σl 133 79 m) 180 P) 133 83 pz) (show σl 133 54 ≤ 540 by omega) (show 0 ≤ σl 133 55 ∧ σl 133 55 ≤ σl 133 54 by omega) 21 (by omega) (show 0 ≤ m ∧ m < 140 by omega) (show 0 ≤ σl 133 80 ∧ σl 133 80 < 140 by omega) (show 0 ≤ σl 133 81 ∧ σl 133 81 < 140 by omega)) (fun v_127 σ127 q_127 => ?_)
                  obtain ⟨rfl, hk_127, ht_127⟩ := q_127
                  show Wp _ _ _ _ _ _ []
                  obtain ⟨S9, hC9, g4, g6, _⟩ := RC_and I0 hC h7l hTl (x := 15) (y := 21) (by omega) (by omega) em rfl (hD ▸ hk_127) (ht_127.tr e134l hL54l ht55l)
                  have hw9 : ∀ _ : Unit, (S9 57 6 = 4 ∧ (gUp σ127 133 84 0) 133 84 = 0) ∨ (S9 57 6 = 7 ∧ (gUp σ127 133 84 0) 133 84 = 1) := fun _ => Or.inl ⟨g4, rfl⟩
                  refine w_aload_n (pc' := 131) (i := 0) (by rfl) (by rfl) dX12_readCond_130 rfl ?_
                  refine w_iconst (pc' := 132) (by decide) dX12_readCond_131 rfl ?_
                  refine v_putZ (pc' := 135) (ji := 84) (.inl rfl) rfl fp_X12_466 kd_133 sf_X12_84 dX12_readCond_132 rfl ?_
                  refine w_goto (pc' := 33) dX12_readCond_135 rfl ?_
                  exact ih_33 _ (by omega) (gUp σ127 133 84 0) S9 rfl (by exact hC9) (by exact hw9)
                · skip
                  refine w_aload_n (pc' := 118) (i := 0) (by rfl) (by rfl) dX12_readCond_117 rfl ?_
                  refine w_callV (pc' := 121) (d' := 1) (av := []) mi_mX12_drop lk_X12_435 rfl ci_X12 kd_133 rfl (Nat.le_of_ble_eq_true rfl) (Nat.le_of_ble_eq_true rfl) dX12_readCond_118 rfl (mp_drop (σ := gUp (gUr (gUp σl 133 79 m) 180 P) 133 83 pz) (show 0 < m ∧ m ≤ 140 by omega) (show 0 ≤ pz ∧ pz < 200 by omega)) (fun v_118 σ_118 q_118 => ?_)
                  obtain ⟨rfl, rfl⟩ := q_118
                  refine Wp.heq (σ' := gUp (gUr (gUp σl 133 79 (m - 1)) 180 (updI P (1200 + pz) (σl 186 (m - 1)))) 133 83 (pz + 1)) ((congrArg (fun z => gUp z 133 83 (pz + 1)) ((congrArg (fun z => gUp z 180 (1200 + pz) (σl 186 (m - 1))) ((gUp_ci (by decide)).trans (congrArg (fun z => gUp z 133 83 pz) ((gUp_cr (by decide)).trans (congrArg (fun z => gUr z 180 P) gUp_same))))).trans ((gUp_cu (by decide)).trans (congrArg (fun z => gUp z 133 83 pz) gUp_row)))).trans gUp_same) ?_
                  show Wp _ _ _ _ _ _ []
                  refine w_goto (pc' := 94) dX12_readCond_121 rfl ?_
                  exact ih_94 _ (by omega) (m - 1) (pz + 1) (updI P (1200 + pz) (σl 186 (m - 1))) rfl (by omega) (by omega) (by intro i a b; by_cases e : i = m - 1; (rw [e]; omega); exact hall i (by omega) b) (by rw [hP, show 1200 + pz = 1200 + σl 133 83 + (σl 133 79 - m) by omega, show σl 186 (m - 1) = σl 186 (σl 133 79 - 1 - (σl 133 79 - m)) by rw [show σl 133 79 - 1 - (σl 133 79 - m) = m - 1 by omega], rvf_s (by omega), show σl 133 79 - m + 1 = σl 133 79 - (m - 1) by omega])
          refine Wp.heq (σ' := gUp (gUr (gUp σl 133 79 (σl 133 79)) 180 (σl 180)) 133 83 (σl 133 83)) rowsD ?_
          exact hl_94 _ (σl 133 79) (σl 133 83) (σl 180) rfl (by omega) (by omega) (by intro i a b; omega) (by rw [Int.sub_self]; exact rvf_0.symm)
      · skip
        have h4l : Sl 57 6 = 4 := by have := hwh (); omega
        refine w_aload_n (pc' := 41) (i := 0) (by rfl) (by rfl) dX12_readCond_40 rfl ?_
        refine v_getI (pc' := 44) (ji := 83) rfl fg_X12_426 kd_133 dX12_readCond_41 rfl ?_
        refine w_istore_n (pc' := 45) (i := 3) (ls' := [gR 133, gI c, gI tl, gI (σl 133 83)]) (by rfl) (by decide) (by rfl) dX12_readCond_44 rfl ?_
        refine w_aload_n (pc' := 46) (i := 0) (by rfl) (by rfl) dX12_readCond_45 rfl ?_
        refine w_iload_n (pc' := 47) (i := 2) (by rfl) (by rfl) dX12_readCond_46 rfl ?_
        refine w_callV (pc' := 50) (d' := 3) (av := [gI tl]) mi_mX12_readOne lk_X12_470 rfl ci_X12 kd_133 rfl (Nat.le_of_ble_eq_true rfl) (Nat.le_of_ble_eq_true rfl) dX12_readCond_47 rfl ((mr_readOne I0 hC.1 hC.2.1 eT hLL h4l hC.2.2.1 hTl tl htl (by rw [hC.2.2.2.2.2.2.1]; exact htt)).mono (fun v τ h => bb_of h)) (fun v_47 σ47 q_47 => ?_)
        obtain ⟨b47, rfl, hO_47⟩ := q_47
        show Wp _ _ _ _ _ _ [gI b47]
        refine w_if_ne (pc' := 53) (t := 55) dX12_readCond_50 rfl rfl (fun c_50 => ?_) (fun c_50 => ?_)
        · skip
          have hK47 : ROK T L σ0 S0 Sl σ47 := by
            rcases hO_47 with h | h
            · exact h.2
            · exact absurd h.1 (by omega)
          obtain ⟨S9, g1, g2, g3, g4, g5, g6, g7, g8, g9⟩ := hK47
          have h83b : σ47 133 83 = S9 68 15 := g4.1.2.2.2.1
          refine w_aload_n (pc' := 56) (i := 0) (by rfl) (by rfl) dX12_readCond_55 rfl ?_
          refine w_aload_n (pc' := 57) (i := 0) (by rfl) (by rfl) dX12_readCond_56 rfl ?_
          refine v_getI (pc' := 60) (ji := 83) rfl fg_X12_426 kd_133 dX12_readCond_57 rfl ?_
          refine w_iload_n (pc' := 61) (i := 3) (by rfl) (by rfl) dX12_readCond_60 rfl ?_
          refine w_icmp_le (pc' := 64) (t := 68) dX12_readCond_61 rfl rfl (fun c_61 => ?_) (fun c_61 => ?_)
          · skip
            refine w_iconst (pc' := 69) (by decide) dX12_readCond_68 rfl ?_
            refine v_putZ (pc' := 72) (ji := 84) (.inl rfl) rfl fp_X12_466 kd_133 sf_X12_84 dX12_readCond_69 rfl ?_
            have hC9 : RCI T L σ0 S0 S S9 (gUp σ47 133 84 0) := ⟨g1, g2, g4.wh, g5.keep (fun j hj => if_neg (by omega)), Int.le_trans hC.2.2.2.2.1 (Int.le_of_lt g6), g7.trans hC.2.2.2.2.2.1, g8.trans hC.2.2.2.2.2.2.1, g9.trans hC.2.2.2.2.2.2.2⟩
            have hw9 : ∀ _ : Unit, (S9 57 6 = 4 ∧ (gUp σ47 133 84 0) 133 84 = 0) ∨ (S9 57 6 = 7 ∧ (gUp σ47 133 84 0) 133 84 = 1) := fun _ => by
              rcases g3 with g | g
              · first | exact Or.inl ⟨g.1, rfl⟩ | (exfalso; omega)
              · first | exact Or.inr ⟨g.1, rfl⟩ | (exfalso; omega)
            clear g3
            refine w_goto (pc' := 33) dX12_readCond_72 rfl ?_
            refine Wp.lose (ls' := [gR 133, gI c, gI tl, gX 1]) ⟨.inr rfl, ⟨.inr rfl, ⟨.inr rfl, ⟨.inl rfl, trivial⟩⟩⟩⟩ ?_
            exact ih_33 _ (by omega) (gUp σ47 133 84 0) S9 rfl (by exact hC9) (by exact hw9)
          · skip
            refine w_iconst (pc' := 65) (by decide) dX12_readCond_64 rfl ?_
            refine w_goto (pc' := 69) dX12_readCond_65 rfl ?_
            refine v_putZ (pc' := 72) (ji := 84) (.inr rfl) rfl fp_X12_466 kd_133 sf_X12_84 dX12_readCond_69 rfl ?_
            have hC9 : RCI T L σ0 S0 S S9 (gUp σ47 133 84 1) := ⟨g1, g2, g4.wh, g5.keep (fun j hj => if_neg (by omega)), Int.le_trans hC.2.2.2.2.1 (Int.le_of_lt g6), g7.trans hC.2.2.2.2.2.1, g8.trans hC.2.2.2.2.2.2.1, g9.trans hC.2.2.2.2.2.2.2⟩
            have hw9 : ∀ _ : Unit, (S9 57 6 = 4 ∧ (gUp σ47 133 84 1) 133 84 = 0) ∨ (S9 57 6 = 7 ∧ (gUp σ47 133 84 1) 133 84 = 1) := fun _ => by
              rcases g3 with g | g
              · first | exact Or.inl ⟨g.1, rfl⟩ | (exfalso; omega)
              · first | exact Or.inr ⟨g.1, rfl⟩ | (exfalso; omega)
            clear g3
            refine w_goto (pc' := 33) dX12_readCond_72 rfl ?_
            refine Wp.lose (ls' := [gR 133, gI c, gI tl, gX 1]) ⟨.inr rfl, ⟨.inr rfl, ⟨.inr rfl, ⟨.inl rfl, trivial⟩⟩⟩⟩ ?_
            exact ih_33 _ (by omega) (gUp σ47 133 84 1) S9 rfl (by exact hC9) (by exact hw9)
        · skip
          refine w_iconst (pc' := 54) (by decide) dX12_readCond_53 rfl ?_
          refine w_zreturn rfl (.inl rfl) dX12_readCond_54 ?_
          rcases hO_47 with h | h
          · exact absurd h.1 (by omega)
          · exact Or.inr ⟨rfl, h.2⟩
  exact hl_33 _ (gUp (gUp (gUp (gUp (gUp σ 178 (60 + c) (σ 133 83)) 133 79 0) 133 80 0) 133 81 0) 133 84 0) S rfl (by exact RC_beg hR hf I hw0 hd1 hb0 hB R h175 hm hc (by omega) rfl) (by intro _; exact Or.inl ⟨h4, rfl⟩)
