/-! the reference reads a rule (gen/mod_rr.py) -/
theorem BADE_rn {T : Int → Int} {L a q k v f : Int} {σ0 S0 S σ σ' : gH} (hR : RCH T L S0 S) (hf : ¬ FIN S) (t : TKS T L (S 66 4) a q k v σ) (K : KR σ0 σ) (e : (TAK (ADV S a q k v) k v).2 = f) (hf2 : f = if k = 3 then 2 else 1) (hs : σ' = gUp (gUp σ 133 60 f) 133 61 (σ 133 56)) : BADE T L σ0 S0 σ' := by
  rw [hs]
  have n := t.num.1
  by_cases c : k = 3
  · rw [if_pos c] at hf2
    exact BADE_mk hR hf t K e (by omega) (Or.inr (by omega)) (Or.inr ⟨by omega, rfl⟩) rfl
  · rw [if_neg c] at hf2
    refine BADE_mk hR hf t K e (by omega) (Or.inl hf2) ?_ rfl
    by_cases d : σ 133 57 = 1
    · exact Or.inl ⟨d, hf2⟩
    · exact Or.inr ⟨d, rfl⟩
theorem rn_of {w : gV} {σ σ' : gH} {k v x y : Int} (h : (k = 3 ∧ (x ≤ v ∧ v ≤ y) ∧ w = gI 1 ∧ σ' = σ) ∨ (¬ (k = 3 ∧ x ≤ v ∧ v ≤ y) ∧ w = gI 0 ∧ ∃ f, σ' = gUp (gUp σ 133 60 f) 133 61 (σ 133 56) ∧ f = if k = 3 then 2 else 1)) : ∃ b : Int, w = gI b ∧ ((b = 1 ∧ k = 3 ∧ (x ≤ v ∧ v ≤ y) ∧ σ' = σ) ∨ (b = 0 ∧ ¬ (k = 3 ∧ x ≤ v ∧ v ≤ y) ∧ ∃ f, σ' = gUp (gUp σ 133 60 f) 133 61 (σ 133 56) ∧ f = if k = 3 then 2 else 1)) := by
  rcases h with h | h
  · exact ⟨1, h.2.2.1, Or.inl ⟨rfl, h.1, h.2.1, h.2.2.2⟩⟩
  · exact ⟨0, h.2.1, Or.inr ⟨rfl, h.1, h.2.2⟩⟩
theorem TKS.keep {T : Int → Int} {L p a q k v : Int} {σ σ' : gH} (h : TKS T L p a q k v σ) (e : ∀ j, (55 ≤ j ∧ j ≤ 59) ∨ j = 63 → σ' 133 j = σ 133 j) : TKS T L p a q k v σ' := ⟨h.1, h.2.keep e⟩
theorem RR_bad1L {a q k v L : Int} {S : gH} (h0 : S 57 6 = 0) (hL : S 66 1 = L) (hk : k = 0 → 500 < L) (hw : ¬ isRw (wdO k v)) : (TAK (ADV S a q k v) k v).2 = 1 := by
  by_cases c : k = 0
  · rw [TAK_0 (M := ADV S a q k v) h0, if_pos c]
    show gb (500 < S 66 1) = 1
    exact gb_t (by rw [hL]; exact hk c)
  · exact RR_bad1 h0 c hw
theorem gband1 (a : Int) : gB32 (fun a b => a &&& b) a 1 = 0 ∨ gB32 (fun a b => a &&& b) a 1 = 1 := by
  have h : ∀ z : Int32, (z &&& 1).toInt = 0 ∨ (z &&& 1).toInt = 1 := by
    intro z
    have e : (z &&& 1).toBitVec = z.toBitVec &&& 1#32 := rfl
    have hn : (z.toBitVec &&& 1#32).toNat ≤ 1 := by
      rw [BitVec.toNat_and]
      exact Nat.and_le_right
    have ht : (z &&& 1).toInt = ((z.toBitVec &&& 1#32).toNat : Int) := by
      rw [← Int32.toInt_toBitVec, e, BitVec.toInt_eq_toNat_of_lt (by omega)]
    rw [ht]
    omega
  exact h _
/-- the least and the greatest number of a word -/
def CST (σ : gH) : Prop := σ 184 0 = 0 ∧ σ 184 1 = 1 ∧ σ 184 2 = 0 ∧ σ 184 3 = 1 ∧ σ 184 4 = 0 ∧ σ 185 0 = 4 ∧ σ 185 1 = 999 ∧ σ 185 2 = 3650 ∧ σ 185 3 = 999 ∧ σ 185 4 = 12
theorem CST.at {σ : gH} (h : CST σ) {w : Int} (hw : w = 8 ∨ (22 ≤ w ∧ w ≤ 25)) : σ 184 (NAH w) = gb (w = 22 ∨ w = 24) ∧ σ 185 (NAH w) = GRF w := by
  obtain ⟨a0, a1, a2, a3, a4, b0, b1, b2, b3, b4⟩ := h
  rcases (show w = 8 ∨ w = 22 ∨ w = 23 ∨ w = 24 ∨ w = 25 by omega) with e | e | e | e | e
  all_goals subst e
  · exact ⟨a0.trans (gb_f (by decide)).symm, b0⟩
  · exact ⟨a1.trans (gb_t (by decide)).symm, b1⟩
  · exact ⟨a2.trans (gb_f (by decide)).symm, b2⟩
  · exact ⟨a3.trans (gb_t (by decide)).symm, b3⟩
  · exact ⟨a4.trans (gb_f (by decide)).symm, b4⟩
set_option maxHeartbeats 4000000 in
theorem mr_readIf {T : Int → Int} {L : Int} {σ0 S0 S σ : gH} (I0 : INV L S0) (hR : RCH T L S0 S) (hf : ¬ FIN S) (eT : T = σ0 134) (hLL : L ≤ 540) {a q k v : Int} (h13 : (S 57 6 = 1 ∧ wdO k v ≠ 18) ∨ S 57 6 = 3) (hT : TKS T L (S 66 4) a q k v σ) (R : RLB L σ0 S σ False 0) (c : Int) (H : RIH S σ c) : Mt mX12_readIf 5 [gR 133, gI c] σ (fun w σ' => (w = gI 1 ∧ RDN T L σ0 S0 S σ') ∨ (w = gI 0 ∧ BADE T L σ0 S0 σ')) := by
  refine Mt.walk (ls := [gR 133, gI c]) pn_X12 rfl (fun _ _ h => by rcases h with h | h <;> cases h.1) (Nat.le_of_ble_eq_true rfl) rfl ?_
  have f0 : S 57 3 = 0 := Classical.not_not.mp fun c => hf (Or.inl c)
  have I : INVb L S := (hR.inv I0) f0
  have hL54 : σ 133 54 = L := R.2.1
  have hpL : 0 ≤ S 66 4 ∧ S 66 4 ≤ L := I.1.2.2.2
  have hq : 0 ≤ q ∧ q ≤ L := ⟨(TOKN_in hpL hT.1).1, (TOKN_in hpL hT.1).2.1⟩
  have hto : ∀ _ : Unit, k ≠ 0 → σ 133 55 = q := fun _ => hT.rest.2.2.2
  have e134 : σ 134 = T := by rw [eT]; exact funext fun i => R.1 134 i rfl
  refine w_aload_n (pc' := 1) (i := 0) (by rfl) (by rfl) dX12_readIf_0 rfl ?_
  refine w_bipush (pc' := 3) (by decide) (by decide) dX12_readIf_1 rfl ?_
  refine w_bipush (pc' := 5) (by decide) (by decide) dX12_readIf_3 rfl ?_
  refine w_iconst (pc' := 6) (by decide) dX12_readIf_5 rfl ?_
  refine w_iconst (pc' := 7) (by decide) dX12_readIf_6 rfl ?_
  refine w_iconst (pc' := 8) (by decide) dX12_readIf_7 rfl ?_
  refine w_iconst (pc' := 9) (by decide) dX12_readIf_8 rfl ?_
  refine v_callSE (pc' := 12) (st' := [gJ 249, gR 133]) (d' := 0) (av := [gI 105, gI 102, gI 0, gI 0, gI 0, gI 0]) ms_mX12_spelt st_mX12_spelt lk_X12_412 rfl rfl (Nat.le_of_ble_eq_true rfl) (Nat.le_of_ble_eq_true rfl) dX12_readIf_9 rfl rfl (mg_speltE (σ := σ) (n := 249) 105 102 0 0 0 0 (by decide)) ?_
  refine v_callVE (pc' := 15) (st' := [gI (gb (wdO k v = 17))]) (d' := 0) (av := [gJ 249]) mi_mX12_isKey lk_X12_416 rfl ci_X12 kd_133 rfl (Nat.le_of_ble_eq_true rfl) (Nat.le_of_ble_eq_true rfl) dX12_readIf_12 rfl rfl (mg_isKeyE (σ := σ) (P := wdO k v = 17) (249) (by rw [show (249 : Int) = 249 by decide]; exact TKS.key hT kwc_17 (by decide) (by decide) (by decide))) ?_
  refine v_if_neB (pc' := 18) (t := 24) dX12_readIf_15 rfl rfl (fun c_15 => ?_) (fun c_15 => ?_)
  · skip
    have hkk : k ≠ 0 := by have := wdO_k (w := 17) (k := k) (v := v) (by decide) (by omega); omega
    have ht55 : σ 133 55 = q := hto () hkk
    refine w_aload_n (pc' := 25) (i := 0) (by rfl) (by rfl) dX12_readIf_24 rfl ?_
    refine w_callV (pc' := 28) (d' := 1) (av := []) mi_mX12_go lk_X12_444 rfl ci_X12 kd_133 rfl (Nat.le_of_ble_eq_true rfl) (Nat.le_of_ble_eq_true rfl) dX12_readIf_25 rfl (mg_go (σ := σ) (show σ 133 54 ≤ 540 by omega) (show 0 ≤ σ 133 55 ∧ σ 133 55 ≤ σ 133 54 by omega)) (fun v_25 σ25 q_25 => ?_)
    obtain ⟨rfl, hk_25, ht_25⟩ := q_25
    show Wp _ _ _ _ _ _ []
    obtain ⟨S1, s1, s2, s3, s4, s5, s6, s7, s8, s9, s10, s11, s12, s13, s14⟩ := RI_beg hR hf I (h13.imp And.left id) hT (by omega) R H hk_25 (ht_25.tr e134 hL54 ht55)
    refine w_aload_n (pc' := 29) (i := 0) (by rfl) (by rfl) dX12_readIf_28 rfl ?_
    refine w_iload_n (pc' := 30) (i := 1) (by rfl) (by rfl) dX12_readIf_29 rfl ?_
    refine w_iload_n (pc' := 31) (i := 1) (by rfl) (by rfl) dX12_readIf_30 rfl ?_
    refine w_bipush (pc' := 33) (by decide) (by decide) dX12_readIf_31 rfl ?_
    refine w_icmp_ge (pc' := 36) (t := 40) dX12_readIf_33 rfl rfl (fun c_33 => ?_) (fun c_33 => ?_)
    · skip
      refine w_iconst (pc' := 41) (by decide) dX12_readIf_40 rfl ?_
      refine w_callV (pc' := 44) (d' := 4) (av := [gI c, gI 0]) mi_mX12_readCond lk_X12_474 rfl ci_X12 kd_133 rfl (Nat.le_of_ble_eq_true rfl) (Nat.le_of_ble_eq_true rfl) dX12_readIf_41 rfl ((mr_readCond I0 s1 s2 eT hLL s3 s4 s5 s6 s7 s8 s9 s10 c s11 0 (by decide) ⟨fun h => absurd (s12.mp h) (by omega), fun h => absurd h (by decide)⟩).mono (fun v τ h => bb_of h)) (fun v_41 σ41 q_41 => ?_)
      obtain ⟨b41, rfl, hO_41⟩ := q_41
      show Wp _ _ _ _ _ _ [gI b41]
      refine w_zreturn rfl (by rcases hO_41 with h | h <;> omega) dX12_readIf_44 ?_
      rcases hO_41 with h | h
      · rw [h.1]; exact Or.inl ⟨rfl, h.2.from (by omega) s14⟩
      · rw [h.1]; exact Or.inr ⟨rfl, h.2⟩
    · skip
      refine w_iconst (pc' := 37) (by decide) dX12_readIf_36 rfl ?_
      refine w_goto (pc' := 41) dX12_readIf_37 rfl ?_
      refine w_callV (pc' := 44) (d' := 4) (av := [gI c, gI 1]) mi_mX12_readCond lk_X12_474 rfl ci_X12 kd_133 rfl (Nat.le_of_ble_eq_true rfl) (Nat.le_of_ble_eq_true rfl) dX12_readIf_41 rfl ((mr_readCond I0 s1 s2 eT hLL s3 s4 s5 s6 s7 s8 s9 s10 c s11 1 (by decide) ⟨fun _ => rfl, fun _ => s12.mpr (by omega)⟩).mono (fun v τ h => bb_of h)) (fun v_41 σ41 q_41 => ?_)
      obtain ⟨b41, rfl, hO_41⟩ := q_41
      show Wp _ _ _ _ _ _ [gI b41]
      refine w_zreturn rfl (by rcases hO_41 with h | h <;> omega) dX12_readIf_44 ?_
      rcases hO_41 with h | h
      · rw [h.1]; exact Or.inl ⟨rfl, h.2.from (by omega) s14⟩
      · rw [h.1]; exact Or.inr ⟨rfl, h.2⟩
  · skip
    refine w_aload_n (pc' := 19) (i := 0) (by rfl) (by rfl) dX12_readIf_18 rfl ?_
    refine w_iconst (pc' := 20) (by decide) dX12_readIf_19 rfl ?_
    refine w_callV (pc' := 23) (d' := 0) (av := [gI 1]) mi_mX12_bad lk_X12_409 rfl ci_X12 kd_133 rfl (Nat.le_of_ble_eq_true rfl) (Nat.le_of_ble_eq_true rfl) dX12_readIf_20 rfl (mg_bad (σ := σ) 1) (fun v_20 σ_20 q_20 => ?_)
    obtain ⟨rfl, y_20, rfl, hy_20⟩ := q_20
    refine Wp.heq (σ' := gUp (gUp σ 133 60 y_20) 133 61 (σ 133 56)) ((congrArg (fun z => gUp z 133 61 (σ 133 56)) rfl).trans rfl) ?_
    show Wp _ _ _ _ _ _ [gI 0]
    refine w_zreturn rfl (.inl rfl) dX12_readIf_23 ?_
    exact Or.inr ⟨rfl, BADE_mk hR hf hT R.1 (f := 1) (RI_bad h13 (by omega)) (by decide) (Or.inl rfl) hy_20 rfl⟩
set_option maxHeartbeats 4000000 in
theorem mr_readTell {T : Int → Int} {L : Int} {σ0 S0 S σ : gH} (I0 : INV L S0) (hR : RCH T L S0 S) (hf : ¬ FIN S) (eT : T = σ0 134) (hLL : L ≤ 540) (h0 : S 57 6 = 0) {a q k v : Int} (hT : TKS T L (S 66 4) a q k v σ) (hw : wdO k v = 19) (R : RLB L σ0 S σ False 0) (h175 : σ 175 6 = S 68 3) : Mt mX12_readTell 6 [gR 133] σ (fun w σ' => (w = gI 1 ∧ RDN T L σ0 S0 S σ') ∨ (w = gI 0 ∧ BADE T L σ0 S0 σ')) := by
  refine Mt.walk (ls := [gR 133, gX 1]) pn_X12 rfl (fun _ _ h => by rcases h with h | h <;> cases h.1) (Nat.le_of_ble_eq_true rfl) rfl ?_
  have f0 : S 57 3 = 0 := Classical.not_not.mp fun c => hf (Or.inl c)
  have I : INVb L S := (hR.inv I0) f0
  have hL54 : σ 133 54 = L := R.2.1
  have hpL : 0 ≤ S 66 4 ∧ S 66 4 ≤ L := I.1.2.2.2
  have hq : 0 ≤ q ∧ q ≤ L := ⟨(TOKN_in hpL hT.1).1, (TOKN_in hpL hT.1).2.1⟩
  have hto : ∀ _ : Unit, k ≠ 0 → σ 133 55 = q := fun _ => hT.rest.2.2.2
  have e134 : σ 134 = T := by rw [eT]; exact funext fun i => R.1 134 i rfl
  have hte := I.2.2.1.2.2.1
  have hk2 : k = 2 := wdO_k (by decide) hw
  have ht55 : σ 133 55 = q := hto () (by omega)
  refine w_aload_n (pc' := 1) (i := 0) (by rfl) (by rfl) dX12_readTell_0 rfl ?_
  refine w_getS (pc' := 4) (q := 175) fg_X12_145 kd_133 sf_X12_66 gr_133_66 dX12_readTell_1 rfl ?_
  refine w_bipush (pc' := 6) (by decide) (by decide) dX12_readTell_4 rfl ?_
  refine w_iald (pc' := 7) kd_175 (by omega) (by omega) dX12_readTell_6 rfl ?_
  refine w_bipush (pc' := 9) (by decide) (by decide) dX12_readTell_7 rfl ?_
  refine w_icmp_ne (pc' := 12) (t := 18) dX12_readTell_9 rfl rfl (fun c_9 => ?_) (fun c_9 => ?_)
  · skip
    refine w_aload_n (pc' := 19) (i := 0) (by rfl) (by rfl) dX12_readTell_18 rfl ?_
    refine w_getS (pc' := 22) (q := 175) fg_X12_145 kd_133 sf_X12_66 gr_133_66 dX12_readTell_19 rfl ?_
    refine w_bipush (pc' := 24) (by decide) (by decide) dX12_readTell_22 rfl ?_
    refine w_iald (pc' := 25) kd_175 (by omega) (by omega) dX12_readTell_24 rfl ?_
    refine w_istore_n (pc' := 26) (i := 1) (ls' := [gR 133, gI (σ 175 6)]) (by rfl) (by decide) (by rfl) dX12_readTell_25 rfl ?_
    refine w_aload_n (pc' := 27) (i := 0) (by rfl) (by rfl) dX12_readTell_26 rfl ?_
    refine w_getS (pc' := 30) (q := 176) fg_X12_148 kd_133 sf_X12_67 gr_133_67 dX12_readTell_27 rfl ?_
    refine w_bipush (pc' := 32) (by decide) (by decide) dX12_readTell_30 rfl ?_
    refine w_iload_n (pc' := 33) (i := 1) (by rfl) (by rfl) dX12_readTell_32 rfl ?_
    refine v_iadd (pc' := 34) (by omega) dX12_readTell_33 rfl ?_
    refine w_bipush (pc' := 36) (by decide) (by decide) dX12_readTell_34 rfl ?_
    refine w_iast (pc' := 37) kd_176 (by omega) (by omega) dX12_readTell_36 rfl ?_
    refine w_aload_n (pc' := 38) (i := 0) (by rfl) (by rfl) dX12_readTell_37 rfl ?_
    refine w_callV (pc' := 41) (d' := 1) (av := []) mi_mX12_go lk_X12_444 rfl ci_X12 kd_133 rfl (Nat.le_of_ble_eq_true rfl) (Nat.le_of_ble_eq_true rfl) dX12_readTell_38 rfl (mg_go (σ := gUp σ 176 (48 + (σ 175 6)) 30) (show σ 133 54 ≤ 540 by omega) (show 0 ≤ σ 133 55 ∧ σ 133 55 ≤ σ 133 54 by omega)) (fun v_38 σ38 q_38 => ?_)
    obtain ⟨rfl, hk_38, ht_38⟩ := q_38
    show Wp _ _ _ _ _ _ []
    have e54_38 : σ38 133 54 = L := (hk_38.rd (k := 133) (i := 54) rfl).trans hL54
    have e134_38 : σ38 134 = T := (hk_38.row (k := 134) (by decide)).trans e134
    have hm38 : MTK T L q σ38 := ht_38.tr e134 hL54 ht55
    obtain ⟨a2, q2, k2, v2, hT2⟩ := hm38.of
    have hq2 : 0 ≤ q2 ∧ q2 ≤ L := ⟨(TOKN_in hq hT2.1).1, (TOKN_in hq hT2.1).2.1⟩
    have hto2 : ∀ _ : Unit, k2 ≠ 0 → σ38 133 55 = q2 := fun _ => hT2.rest.2.2.2
    obtain ⟨S1, s1, s2, s3, s4, s5, s6, s7, s8, s9, s10⟩ := RT_beg hR hf I h0 hT hw (by omega) R h175 hk_38
    rw [← s4] at hT2
    refine w_aload_n (pc' := 42) (i := 0) (by rfl) (by rfl) dX12_readTell_41 rfl ?_
    refine w_bipush (pc' := 44) (by decide) (by decide) dX12_readTell_42 rfl ?_
    refine w_bipush (pc' := 46) (by decide) (by decide) dX12_readTell_44 rfl ?_
    refine w_bipush (pc' := 48) (by decide) (by decide) dX12_readTell_46 rfl ?_
    refine w_bipush (pc' := 50) (by decide) (by decide) dX12_readTell_48 rfl ?_
    refine w_bipush (pc' := 52) (by decide) (by decide) dX12_readTell_50 rfl ?_
    refine w_bipush (pc' := 54) (by decide) (by decide) dX12_readTell_52 rfl ?_
    refine v_callSE (pc' := 57) (st' := [gJ 335207579, gR 133]) (d' := 0) (av := [gI 119, gI 105, gI 116, gI 104, gI 105, gI 110]) ms_mX12_spelt st_mX12_spelt lk_X12_412 rfl rfl (Nat.le_of_ble_eq_true rfl) (Nat.le_of_ble_eq_true rfl) dX12_readTell_54 rfl rfl (mg_speltE (σ := σ38) (n := 335207579) 119 105 116 104 105 110 (by decide)) ?_
    refine v_callVE (pc' := 60) (st' := [gI (gb (wdO k2 v2 = 18))]) (d' := 0) (av := [gJ 335207579]) mi_mX12_isKey lk_X12_416 rfl ci_X12 kd_133 rfl (Nat.le_of_ble_eq_true rfl) (Nat.le_of_ble_eq_true rfl) dX12_readTell_57 rfl rfl (mg_isKeyE (σ := σ38) (P := wdO k2 v2 = 18) (335207579) (by rw [show (335207579 : Int) = 335207579 by decide]; exact TKS.key hT2 kwc_18 (by decide) (by decide) (by decide))) ?_
    refine v_if_eqB (pc' := 63) (t := 97) dX12_readTell_60 rfl rfl (fun c_60 => ?_) (fun c_60 => ?_)
    · skip
      
      refine w_aload_n (pc' := 98) (i := 0) (by rfl) (by rfl) dX12_readTell_97 rfl ?_
      refine w_getS (pc' := 101) (q := 175) fg_X12_145 kd_133 sf_X12_66 gr_133_66 dX12_readTell_98 rfl ?_
      refine w_bipush (pc' := 103) (by decide) (by decide) dX12_readTell_101 rfl ?_
      refine w_dup2 (pc' := 104) dX12_readTell_103 rfl ?_
      refine w_iald (pc' := 105) kd_175 (by omega) (by omega) dX12_readTell_104 rfl ?_
      rw [(hk_38).rd (k := 175) (i := 6) rfl]
      show Wp _ _ _ _ _ _ [gI (σ 175 6), gI 6, gR 175]
      refine w_iconst (pc' := 106) (by decide) dX12_readTell_105 rfl ?_
      refine v_iadd (pc' := 107) (by omega) dX12_readTell_106 rfl ?_
      refine w_iast (pc' := 108) kd_175 (by omega) (by omega) dX12_readTell_107 rfl ?_
      refine w_aload_n (pc' := 109) (i := 0) (by rfl) (by rfl) dX12_readTell_108 rfl ?_
      refine w_iload_n (pc' := 110) (i := 1) (by rfl) (by rfl) dX12_readTell_109 rfl ?_
      refine w_callV (pc' := 113) (d' := 5) (av := [gI (σ 175 6)]) mi_mX12_readIf lk_X12_481 rfl ci_X12 kd_133 rfl (Nat.le_of_ble_eq_true rfl) (Nat.le_of_ble_eq_true rfl) dX12_readTell_110 rfl ((mr_readIf (σ := gUp σ38 175 6 ((σ 175 6) + 1)) I0 s1 s2 eT hLL (Or.inl ⟨s3, by omega⟩) (hT2.keep (fun j hj => rfl)) s5.te (σ 175 6) (Or.inl ⟨s8, h175.trans s7.symm, by show σ 175 6 + 1 = S1 68 3 + 1; rw [s7, h175], s6⟩)).mono (fun v τ h => bb_of h)) (fun v_110 σ110 q_110 => ?_)
      obtain ⟨b110, rfl, hO_110⟩ := q_110
      show Wp _ _ _ _ _ _ [gI b110]
      refine w_zreturn rfl (by rcases hO_110 with h | h <;> omega) dX12_readTell_113 ?_
      rcases hO_110 with h | h
      · rw [h.1]; first | exact Or.inl ⟨rfl, h.2.from (by omega) s9⟩ | exact Or.inl ⟨rfl, h.2.from (by omega) (by rw [w9, u8, s9])⟩
      · rw [h.1]; exact Or.inr ⟨rfl, h.2⟩
    · skip
      have hkk2 : k2 ≠ 0 := by have := wdO_k (w := 18) (k := k2) (v := v2) (by decide) (by omega); omega
      have ht55b : σ38 133 55 = q2 := hto2 () hkk2
      have I1 : INVb L S1 := (s1.inv I0) (Classical.not_not.mp fun c => s2 (Or.inl c))
      refine w_aload_n (pc' := 64) (i := 0) (by rfl) (by rfl) dX12_readTell_63 rfl ?_
      refine w_callV (pc' := 67) (d' := 1) (av := []) mi_mX12_go lk_X12_444 rfl ci_X12 kd_133 rfl (Nat.le_of_ble_eq_true rfl) (Nat.le_of_ble_eq_true rfl) dX12_readTell_64 rfl (mg_go (σ := σ38) (show σ38 133 54 ≤ 540 by omega) (show 0 ≤ σ38 133 55 ∧ σ38 133 55 ≤ σ38 133 54 by omega)) (fun v_64 σ64 q_64 => ?_)
      obtain ⟨rfl, hk_64, ht_64⟩ := q_64
      show Wp _ _ _ _ _ _ []
      have e54_64 : σ64 133 54 = L := (hk_64.rd (k := 133) (i := 54) rfl).trans e54_38
      have e134_64 : σ64 134 = T := (hk_64.row (k := 134) (by decide)).trans e134_38
      have hm64 : MTK T L q2 σ64 := ht_64.tr e134_38 e54_38 ht55b
      obtain ⟨a3, q3, k3, v3, hT3⟩ := hm64.of
      have hq3 : 0 ≤ q3 ∧ q3 ≤ L := ⟨(TOKN_in hq2 hT3.1).1, (TOKN_in hq2 hT3.1).2.1⟩
      have hto3 : ∀ _ : Unit, k3 ≠ 0 → σ64 133 55 = q3 := fun _ => hT3.rest.2.2.2
      obtain ⟨S2, u1, u2, u3, u4, u5, u6, u7, u8, u9⟩ := RT_wi s1 s2 I1 s3 hT2 (by omega) s5 hk_64
      rw [← u4] at hT3
      refine w_aload_n (pc' := 68) (i := 0) (by rfl) (by rfl) dX12_readTell_67 rfl ?_
      refine w_iconst (pc' := 69) (by decide) dX12_readTell_68 rfl ?_
      refine w_sipush (pc' := 72) (by decide) (by decide) dX12_readTell_69 rfl ?_
      refine w_callV (pc' := 75) (d' := 1) (av := [gI 0, gI 999]) mi_mX12_readNumber lk_X12_478 rfl ci_X12 kd_133 rfl (Nat.le_of_ble_eq_true rfl) (Nat.le_of_ble_eq_true rfl) dX12_readTell_72 rfl ((mp_readNumber hT3 0 999).mono (fun v τ h => rn_of h)) (fun v_72 σ72 q_72 => ?_)
      obtain ⟨b72, rfl, hO_72⟩ := q_72
      show Wp _ _ _ _ _ _ [gI b72]
      refine w_if_ne (pc' := 78) (t := 80) dX12_readTell_75 rfl rfl (fun c_75 => ?_) (fun c_75 => ?_)
      · skip
        have hO2 : k3 = 3 ∧ (0 ≤ v3 ∧ v3 ≤ 999) ∧ σ72 = σ64 := by
          rcases hO_72 with h | h
          · exact h.2
          · exact absurd h.1 (by omega)
        have ht55c : σ64 133 55 = q3 := hto3 () (by omega)
        have I2 : INVb L S2 := (u1.inv I0) (Classical.not_not.mp fun c => u2 (Or.inl c))
        refine Wp.heq (σ' := σ64) hO2.2.2 ?_
        refine w_aload_n (pc' := 81) (i := 0) (by rfl) (by rfl) dX12_readTell_80 rfl ?_
        refine w_getS (pc' := 84) (q := 176) fg_X12_148 kd_133 sf_X12_67 gr_133_67 dX12_readTell_81 rfl ?_
        refine w_bipush (pc' := 86) (by decide) (by decide) dX12_readTell_84 rfl ?_
        refine w_iload_n (pc' := 87) (i := 1) (by rfl) (by rfl) dX12_readTell_86 rfl ?_
        refine v_iadd (pc' := 88) (by omega) dX12_readTell_87 rfl ?_
        refine w_aload_n (pc' := 89) (i := 0) (by rfl) (by rfl) dX12_readTell_88 rfl ?_
        refine v_getI (pc' := 92) (ji := 58) rfl fg_X12_397 kd_133 dX12_readTell_89 rfl ?_
        refine w_iast (pc' := 93) kd_176 (by omega) (by omega) dX12_readTell_92 rfl ?_
        refine w_aload_n (pc' := 94) (i := 0) (by rfl) (by rfl) dX12_readTell_93 rfl ?_
        refine w_callV (pc' := 97) (d' := 1) (av := []) mi_mX12_go lk_X12_444 rfl ci_X12 kd_133 rfl (Nat.le_of_ble_eq_true rfl) (Nat.le_of_ble_eq_true rfl) dX12_readTell_94 rfl (mg_go (σ := gUp σ64 176 (48 + (σ 175 6)) (σ64 133 58)) (show σ64 133 54 ≤ 540 by omega) (show 0 ≤ σ64 133 55 ∧ σ64 133 55 ≤ σ64 133 54 by omega)) (fun v_94 σ94 q_94 => ?_)
        obtain ⟨rfl, hk_94, ht_94⟩ := q_94
        show Wp _ _ _ _ _ _ []
        have e54_94 : σ94 133 54 = L := (hk_94.rd (k := 133) (i := 54) rfl).trans e54_64
        have e134_94 : σ94 134 = T := (hk_94.row (k := 134) (by decide)).trans e134_64
        have hm94 : MTK T L q3 σ94 := ht_94.tr e134_64 e54_64 ht55c
        obtain ⟨a4, q4, k4, v4, hT4⟩ := hm94.of
        have hq4 : 0 ≤ q4 ∧ q4 ≤ L := ⟨(TOKN_in hq3 hT4.1).1, (TOKN_in hq3 hT4.1).2.1⟩
        have hto4 : ∀ _ : Unit, k4 ≠ 0 → σ94 133 55 = q4 := fun _ => hT4.rest.2.2.2
        obtain ⟨S3, w1, w2, w3, w4, w5, w6, w7, w8, w9, w10⟩ := RT_nu u1 u2 I2 u3 hT3 hO2.1 hO2.2.1 u5 (h175.trans (s7.symm.trans u6.symm)) (hT3.num.2 hO2.1) hk_94
        rw [← w4] at hT4
        refine w_aload_n (pc' := 98) (i := 0) (by rfl) (by rfl) dX12_readTell_97 rfl ?_
        refine w_getS (pc' := 101) (q := 175) fg_X12_145 kd_133 sf_X12_66 gr_133_66 dX12_readTell_98 rfl ?_
        refine w_bipush (pc' := 103) (by decide) (by decide) dX12_readTell_101 rfl ?_
        refine w_dup2 (pc' := 104) dX12_readTell_103 rfl ?_
        refine w_iald (pc' := 105) kd_175 (by omega) (by omega) dX12_readTell_104 rfl ?_
        rw [(hk_94).rd (k := 175) (i := 6) rfl]
        show Wp _ _ _ _ _ _ [gI (σ64 175 6), gI 6, gR 175]
        rw [(hk_64).rd (k := 175) (i := 6) rfl]
        rw [(hk_38).rd (k := 175) (i := 6) rfl]
        show Wp _ _ _ _ _ _ [gI (σ 175 6), gI 6, gR 175]
        refine w_iconst (pc' := 106) (by decide) dX12_readTell_105 rfl ?_
        refine v_iadd (pc' := 107) (by omega) dX12_readTell_106 rfl ?_
        refine w_iast (pc' := 108) kd_175 (by omega) (by omega) dX12_readTell_107 rfl ?_
        refine w_aload_n (pc' := 109) (i := 0) (by rfl) (by rfl) dX12_readTell_108 rfl ?_
        refine w_iload_n (pc' := 110) (i := 1) (by rfl) (by rfl) dX12_readTell_109 rfl ?_
        refine w_callV (pc' := 113) (d' := 5) (av := [gI (σ 175 6)]) mi_mX12_readIf lk_X12_481 rfl ci_X12 kd_133 rfl (Nat.le_of_ble_eq_true rfl) (Nat.le_of_ble_eq_true rfl) dX12_readTell_110 rfl ((mr_readIf (σ := gUp σ94 175 6 ((σ 175 6) + 1)) I0 w1 w2 eT hLL (Or.inr w3) (hT4.keep (fun j hj => rfl)) w5.te (σ 175 6) (Or.inl ⟨by rw [w8, u7]; exact s8, h175.trans (s7.symm.trans (u6.symm.trans w7.symm)), by show σ 175 6 + 1 = S3 68 3 + 1; rw [w7, u6, s7, h175], w6⟩)).mono (fun v τ h => bb_of h)) (fun v_110 σ110 q_110 => ?_)
        obtain ⟨b110, rfl, hO_110⟩ := q_110
        show Wp _ _ _ _ _ _ [gI b110]
        refine w_zreturn rfl (by rcases hO_110 with h | h <;> omega) dX12_readTell_113 ?_
        rcases hO_110 with h | h
        · rw [h.1]; first | exact Or.inl ⟨rfl, h.2.from (by omega) s9⟩ | exact Or.inl ⟨rfl, h.2.from (by omega) (by rw [w9, u8, s9])⟩
        · rw [h.1]; exact Or.inr ⟨rfl, h.2⟩
      · skip
        refine w_iconst (pc' := 79) (by decide) dX12_readTell_78 rfl ?_
        refine w_zreturn rfl (.inl rfl) dX12_readTell_79 ?_
        rcases hO_72 with h | h
        · exact absurd h.1 (by omega)
        · obtain ⟨f, e1, e2⟩ := h.2.2
          refine Or.inr ⟨rfl, BADE_rn u1 u2 hT3 u5.1 (f := f) ?_ e2 e1⟩
          have hn3 := h.2.1
          rw [LTD_f u3, e2]
          by_cases c : k3 = 3
          · rw [if_pos c, if_pos c, if_neg (fun x => hn3 ⟨c, x⟩)]
          · rw [if_neg c, if_neg c]
  · skip
    refine w_aload_n (pc' := 13) (i := 0) (by rfl) (by rfl) dX12_readTell_12 rfl ?_
    refine w_iconst (pc' := 14) (by decide) dX12_readTell_13 rfl ?_
    refine w_callV (pc' := 17) (d' := 0) (av := [gI 3]) mi_mX12_bad lk_X12_409 rfl ci_X12 kd_133 rfl (Nat.le_of_ble_eq_true rfl) (Nat.le_of_ble_eq_true rfl) dX12_readTell_14 rfl (mg_bad (σ := σ) 3) (fun v_14 σ_14 q_14 => ?_)
    obtain ⟨rfl, y_14, rfl, hy_14⟩ := q_14
    refine Wp.heq (σ' := gUp (gUp σ 133 60 y_14) 133 61 (σ 133 56)) ((congrArg (fun z => gUp z 133 61 (σ 133 56)) rfl).trans rfl) ?_
    show Wp _ _ _ _ _ _ [gI 0]
    refine w_zreturn rfl (.inl rfl) dX12_readTell_17 ?_
    exact Or.inr ⟨rfl, BADE_mk hR hf hT R.1 (f := 3) (RR_bad3 h0 (by omega) (by rw [hw]; exact Or.inr (by decide)) (Or.inl ⟨hw, by omega⟩)) (by decide) (Or.inr (by omega)) hy_14 rfl⟩
set_option maxHeartbeats 4000000 in
theorem mr_readRule {T : Int → Int} {L : Int} {σ0 S0 S σ : gH} (I0 : INV L S0) (hR : RCH T L S0 S) (hf : ¬ FIN S) (eT : T = σ0 134) (hLL : L ≤ 540) (h0 : S 57 6 = 0) {a q k v : Int} (hT : TKS T L (S 66 4) a q k v σ) (hk0 : k = 0 → 500 < L) (R : RLB L σ0 S σ False 0) (h175 : σ 175 6 = S 68 3) (hcs : CST σ0) : Mt mX12_readRule 7 [gR 133] σ (fun w σ' => (w = gI 1 ∧ RDN T L σ0 S0 S σ') ∨ (w = gI 0 ∧ BADE T L σ0 S0 σ')) := by
  refine Mt.walk (ls := [gR 133, gX 1, gX 1, gX 1, gX 1]) pn_X12 rfl (fun _ _ h => by rcases h with h | h <;> cases h.1) (Nat.le_of_ble_eq_true rfl) rfl ?_
  have f0 : S 57 3 = 0 := Classical.not_not.mp fun c => hf (Or.inl c)
  have I : INVb L S := (hR.inv I0) f0
  have hL54 : σ 133 54 = L := R.2.1
  have hpL : 0 ≤ S 66 4 ∧ S 66 4 ≤ L := I.1.2.2.2
  have hq : 0 ≤ q ∧ q ≤ L := ⟨(TOKN_in hpL hT.1).1, (TOKN_in hpL hT.1).2.1⟩
  have hto : ∀ _ : Unit, k ≠ 0 → σ 133 55 = q := fun _ => hT.rest.2.2.2
  have e134 : σ 134 = T := by rw [eT]; exact funext fun i => R.1 134 i rfl
  have tin := TOKN_in hpL hT.1
  have hwi : -1 ≤ wdO k v ∧ wdO k v ≤ 25 := wdO_in tin.2.2.2.1
  clear tin
  have hcs2 : CST σ := by
    unfold CST
    rw [R.1 184 0 rfl, R.1 184 1 rfl, R.1 184 2 rfl, R.1 184 3 rfl, R.1 184 4 rfl, R.1 185 0 rfl, R.1 185 1 rfl, R.1 185 2 rfl, R.1 185 3 rfl, R.1 185 4 rfl]
    exact hcs
  have hL1 : S 66 1 = L := I.1.2.1
  refine w_aload_n (pc' := 1) (i := 0) (by rfl) (by rfl) dX12_readRule_0 rfl ?_
  refine w_bipush (pc' := 3) (by decide) (by decide) dX12_readRule_1 rfl ?_
  refine w_bipush (pc' := 5) (by decide) (by decide) dX12_readRule_3 rfl ?_
  refine w_bipush (pc' := 7) (by decide) (by decide) dX12_readRule_5 rfl ?_
  refine w_bipush (pc' := 9) (by decide) (by decide) dX12_readRule_7 rfl ?_
  refine w_iconst (pc' := 10) (by decide) dX12_readRule_9 rfl ?_
  refine w_iconst (pc' := 11) (by decide) dX12_readRule_10 rfl ?_
  refine v_callSE (pc' := 14) (st' := [gJ 397641, gR 133]) (d' := 0) (av := [gI 116, gI 101, gI 108, gI 108, gI 0, gI 0]) ms_mX12_spelt st_mX12_spelt lk_X12_412 rfl rfl (Nat.le_of_ble_eq_true rfl) (Nat.le_of_ble_eq_true rfl) dX12_readRule_11 rfl rfl (mg_speltE (σ := σ) (n := 397641) 116 101 108 108 0 0 (by decide)) ?_
  refine v_callVE (pc' := 17) (st' := [gI (gb (wdO k v = 19))]) (d' := 0) (av := [gJ 397641]) mi_mX12_isKey lk_X12_416 rfl ci_X12 kd_133 rfl (Nat.le_of_ble_eq_true rfl) (Nat.le_of_ble_eq_true rfl) dX12_readRule_14 rfl rfl (mg_isKeyE (σ := σ) (P := wdO k v = 19) (397641) (by rw [show (397641 : Int) = 397641 by decide]; exact TKS.key hT kwc_19 (by decide) (by decide) (by decide))) ?_
  refine v_if_eqB (pc' := 20) (t := 25) dX12_readRule_17 rfl rfl (fun c_17 => ?_) (fun c_17 => ?_)
  · skip
    refine w_aload_n (pc' := 26) (i := 0) (by rfl) (by rfl) dX12_readRule_25 rfl ?_
    refine w_bipush (pc' := 28) (by decide) (by decide) dX12_readRule_26 rfl ?_
    refine w_bipush (pc' := 30) (by decide) (by decide) dX12_readRule_28 rfl ?_
    refine w_bipush (pc' := 32) (by decide) (by decide) dX12_readRule_30 rfl ?_
    refine w_iconst (pc' := 33) (by decide) dX12_readRule_32 rfl ?_
    refine w_iconst (pc' := 34) (by decide) dX12_readRule_33 rfl ?_
    refine w_iconst (pc' := 35) (by decide) dX12_readRule_34 rfl ?_
    refine v_callSE (pc' := 38) (st' := [gJ 14114, gR 133]) (d' := 0) (av := [gI 115, gI 105, gI 116, gI 0, gI 0, gI 0]) ms_mX12_spelt st_mX12_spelt lk_X12_412 rfl rfl (Nat.le_of_ble_eq_true rfl) (Nat.le_of_ble_eq_true rfl) dX12_readRule_35 rfl rfl (mg_speltE (σ := σ) (n := 14114) 115 105 116 0 0 0 (by decide)) ?_
    refine v_callVE (pc' := 41) (st' := [gI (gb (wdO k v = 20))]) (d' := 0) (av := [gJ 14114]) mi_mX12_isKey lk_X12_416 rfl ci_X12 kd_133 rfl (Nat.le_of_ble_eq_true rfl) (Nat.le_of_ble_eq_true rfl) dX12_readRule_38 rfl rfl (mg_isKeyE (σ := σ) (P := wdO k v = 20) (14114) (by rw [show (14114 : Int) = 14114 by decide]; exact TKS.key hT kwc_20 (by decide) (by decide) (by decide))) ?_
    refine w_istore_n (pc' := 42) (i := 1) (ls' := [gR 133, gI (gb (wdO k v = 20)), gX 1, gX 1, gX 1]) (by rfl) (by decide) (by rfl) dX12_readRule_41 rfl ?_
    refine w_aload_n (pc' := 43) (i := 0) (by rfl) (by rfl) dX12_readRule_42 rfl ?_
    refine w_bipush (pc' := 45) (by decide) (by decide) dX12_readRule_43 rfl ?_
    refine w_bipush (pc' := 47) (by decide) (by decide) dX12_readRule_45 rfl ?_
    refine w_bipush (pc' := 49) (by decide) (by decide) dX12_readRule_47 rfl ?_
    refine w_iconst (pc' := 50) (by decide) dX12_readRule_49 rfl ?_
    refine w_iconst (pc' := 51) (by decide) dX12_readRule_50 rfl ?_
    refine w_iconst (pc' := 52) (by decide) dX12_readRule_51 rfl ?_
    refine v_callSE (pc' := 55) (st' := [gJ 9529, gR 133]) (d' := 0) (av := [gI 109, gI 97, gI 121, gI 0, gI 0, gI 0]) ms_mX12_spelt st_mX12_spelt lk_X12_412 rfl rfl (Nat.le_of_ble_eq_true rfl) (Nat.le_of_ble_eq_true rfl) dX12_readRule_52 rfl rfl (mg_speltE (σ := σ) (n := 9529) 109 97 121 0 0 0 (by decide)) ?_
    refine v_callVE (pc' := 58) (st' := [gI (gb (wdO k v = 21))]) (d' := 0) (av := [gJ 9529]) mi_mX12_isKey lk_X12_416 rfl ci_X12 kd_133 rfl (Nat.le_of_ble_eq_true rfl) (Nat.le_of_ble_eq_true rfl) dX12_readRule_55 rfl rfl (mg_isKeyE (σ := σ) (P := wdO k v = 21) (9529) (by rw [show (9529 : Int) = 9529 by decide]; exact TKS.key hT kwc_21 (by decide) (by decide) (by decide))) ?_
    refine w_istore_n (pc' := 59) (i := 2) (ls' := [gR 133, gI (gb (wdO k v = 20)), gI (gb (wdO k v = 21)), gX 1, gX 1]) (by rfl) (by decide) (by rfl) dX12_readRule_58 rfl ?_
    refine w_aload_n (pc' := 60) (i := 0) (by rfl) (by rfl) dX12_readRule_59 rfl ?_
    refine v_callVE (pc' := 63) (st' := [gI (NAH (wdO k v))]) (d' := 1) (av := []) mi_mX12_numberAtHand lk_X12_488 rfl ci_X12 kd_133 rfl (Nat.le_of_ble_eq_true rfl) (Nat.le_of_ble_eq_true rfl) dX12_readRule_60 rfl rfl (mg_number hT) ?_
    refine w_istore_n (pc' := 64) (i := 3) (ls' := [gR 133, gI (gb (wdO k v = 20)), gI (gb (wdO k v = 21)), gI (NAH (wdO k v)), gX 1]) (by rfl) (by decide) (by rfl) dX12_readRule_63 rfl ?_
    have hj_83 : (wdO k v = 8 ∨ (20 ≤ wdO k v ∧ wdO k v ≤ 25)) → Wp mX12_readRule 7 (fun w σ' => (w = gI 1 ∧ RDN T L σ0 S0 S σ') ∨ (w = gI 0 ∧ BADE T L σ0 S0 σ')) σ 83 [gR 133, gI (gb (wdO k v = 20)), gI (gb (wdO k v = 21)), gI (NAH (wdO k v)), gX 1] [] := by
      intro hj64
      have hj_102 : Wp mX12_readRule 7 (fun w σ' => (w = gI 1 ∧ RDN T L σ0 S0 S σ') ∨ (w = gI 0 ∧ BADE T L σ0 S0 σ')) σ 102 [gR 133, gI (gb (wdO k v = 20)), gI (gb (wdO k v = 21)), gI (NAH (wdO k v)), gX 1] [gI (TLB (wdO k v))] := by
        refine w_istore (pc' := 104) (ls' := [gR 133, gI (gb (wdO k v = 20)), gI (gb (wdO k v = 21)), gI (NAH (wdO k v)), gI (TLB (wdO k v))]) (by decide) (by rfl) dX12_readRule_102 rfl ?_
        have htb := TLB_in hj64
        have hkk : k = 2 := by
          rcases hj64 with x | x
          · exact wdO_k (by decide) x
          · exact wdO_k (k := k) (v := v) (w := wdO k v) (by omega) rfl
        have ht55 : σ 133 55 = q := hto () (by omega)
        have hb1 := gband1 (gB32 (fun a b => a >>> (b &&& 31)) (σ 133 62) (TLB (wdO k v)))
        have hbt := R.2.2.2.2.2.2.2.1 (wdO k v) hj64
        refine w_aload_n (pc' := 105) (i := 0) (by rfl) (by rfl) dX12_readRule_104 rfl ?_
        refine v_getI (pc' := 108) (ji := 62) rfl fg_X12_491 kd_133 dX12_readRule_105 rfl ?_
        refine w_iload (pc' := 110) (by rfl) dX12_readRule_108 rfl ?_
        refine w_ishr (pc' := 111) dX12_readRule_110 rfl ?_
        refine w_iconst (pc' := 112) (by decide) dX12_readRule_111 rfl ?_
        refine w_iand (pc' := 113) dX12_readRule_112 rfl ?_
        refine w_iconst (pc' := 114) (by decide) dX12_readRule_113 rfl ?_
        refine w_icmp_ne (pc' := 117) (t := 123) dX12_readRule_114 rfl rfl (fun c_114 => ?_) (fun c_114 => ?_)
        · skip
          have hno : ¬ bit3 (S 57 7) (wdO k v) := fun x => by
            have y : gB32 (fun a b => a &&& b) (gB32 (fun a b => a >>> (b &&& 31)) (σ 133 62) (TLB (wdO k v))) 1 ≠ 0 := hbt.mp x
            omega
          refine w_aload_n (pc' := 124) (i := 0) (by rfl) (by rfl) dX12_readRule_123 rfl ?_
          refine w_dup (pc' := 125) dX12_readRule_124 rfl ?_
          refine v_getI (pc' := 128) (ji := 62) rfl fg_X12_491 kd_133 dX12_readRule_125 rfl ?_
          refine w_iconst (pc' := 129) (by decide) dX12_readRule_128 rfl ?_
          refine w_iload (pc' := 131) (by rfl) dX12_readRule_129 rfl ?_
          refine w_ishl (pc' := 132) dX12_readRule_131 rfl ?_
          refine w_ior (pc' := 133) dX12_readRule_132 rfl ?_
          refine v_putI (pc' := 136) (ji := 62) rfl fp_X12_491 kd_133 sf_X12_62 dX12_readRule_133 rfl ?_
          refine w_aload_n (pc' := 137) (i := 0) (by rfl) (by rfl) dX12_readRule_136 rfl ?_
          refine w_callV (pc' := 140) (d' := 1) (av := []) mi_mX12_go lk_X12_444 rfl ci_X12 kd_133 rfl (Nat.le_of_ble_eq_true rfl) (Nat.le_of_ble_eq_true rfl) dX12_readRule_137 rfl (mg_go (σ := gUp σ 133 62 (gB32 (fun a b => a ||| b) (σ 133 62) (gB32 (fun a b => a <<< (b &&& 31)) 1 (TLB (wdO k v))))) (show σ 133 54 ≤ 540 by omega) (show 0 ≤ σ 133 55 ∧ σ 133 55 ≤ σ 133 54 by omega)) (fun v_137 σ137 q_137 => ?_)
          obtain ⟨rfl, hk_137, ht_137⟩ := q_137
          show Wp _ _ _ _ _ _ []
          have e54_137 : σ137 133 54 = L := (hk_137.rd (k := 133) (i := 54) rfl).trans hL54
          have e134_137 : σ137 134 = T := (hk_137.row (k := 134) (by decide)).trans e134
          have hm137 : MTK T L q σ137 := ht_137.tr e134 hL54 ht55
          obtain ⟨a2, q2, k2, v2, hT2⟩ := hm137.of
          have hq2 : 0 ≤ q2 ∧ q2 ≤ L := ⟨(TOKN_in hq hT2.1).1, (TOKN_in hq hT2.1).2.1⟩
          have hto2 : ∀ _ : Unit, k2 ≠ 0 → σ137 133 55 = q2 := fun _ => hT2.rest.2.2.2
          obtain ⟨S1, s1, s2, s3, s4, s5, s6, s7, s8, s9, s10⟩ := RR_beg hR hf I h0 hT rfl hj64 hno R rfl hk_137
          rw [← s4] at hT2
          have h175b : σ137 175 6 = S1 68 3 := by rw [hk_137.row (k := 175) (by decide), s8]; exact h175
          refine w_iload_n (pc' := 141) (i := 1) (by rfl) (by rfl) dX12_readRule_140 rfl ?_
          refine v_if_neB (pc' := 144) (t := 148) dX12_readRule_141 rfl rfl (fun c_141 => ?_) (fun c_141 => ?_)
          · skip
            refine w_aload_n (pc' := 149) (i := 0) (by rfl) (by rfl) dX12_readRule_148 rfl ?_
            refine w_iload (pc' := 151) (by rfl) dX12_readRule_149 rfl ?_
            refine w_callV (pc' := 154) (d' := 5) (av := [gI (TLB (wdO k v))]) mi_mX12_readIf lk_X12_481 rfl ci_X12 kd_133 rfl (Nat.le_of_ble_eq_true rfl) (Nat.le_of_ble_eq_true rfl) dX12_readRule_151 rfl ((mr_readIf I0 s1 s2 eT hLL (Or.inr (by rw [s3]; exact if_pos (by omega))) hT2 s5 (TLB (wdO k v)) (Or.inr ⟨s7, by (rw [s6]; unfold TLB; (repeat' split) <;> omega), h175b⟩)).mono (fun v τ h => bb_of h)) (fun v_151 σ151 q_151 => ?_)
            obtain ⟨b151, rfl, hO_151⟩ := q_151
            show Wp _ _ _ _ _ _ [gI b151]
            refine w_zreturn rfl (by rcases hO_151 with h | h <;> omega) dX12_readRule_154 ?_
            rcases hO_151 with h | h
            · rw [h.1]; exact Or.inl ⟨rfl, h.2.from (by omega) s9⟩
            · rw [h.1]; exact Or.inr ⟨rfl, h.2⟩
          · skip
            refine w_iload_n (pc' := 145) (i := 2) (by rfl) (by rfl) dX12_readRule_144 rfl ?_
            refine v_if_eqB (pc' := 148) (t := 155) dX12_readRule_145 rfl rfl (fun c_145 => ?_) (fun c_145 => ?_)
            · skip
              have hw8 : wdO k v = 8 ∨ (22 ≤ wdO k v ∧ wdO k v ≤ 25) := by omega
              have hnah := (NAH_in hwi (by omega) (by omega)).2 hw8
              have hs8 : S1 57 6 = 8 := by rw [s3]; exact if_neg (by omega)
              have hlh := hcs2.at hw8
              have I1 : INVb L S1 := (s1.inv I0) (Classical.not_not.mp fun c => s2 (Or.inl c))
              refine w_aload_n (pc' := 156) (i := 0) (by rfl) (by rfl) dX12_readRule_155 rfl ?_
              refine w_aload_n (pc' := 157) (i := 0) (by rfl) (by rfl) dX12_readRule_156 rfl ?_
              refine w_getS (pc' := 160) (q := 184) fg_X12_172 kd_133 sf_X12_75 gr_133_75 dX12_readRule_157 rfl ?_
              refine w_iload_n (pc' := 161) (i := 3) (by rfl) (by rfl) dX12_readRule_160 rfl ?_
              refine w_iald (pc' := 162) kd_184 (by omega) (by omega) dX12_readRule_161 rfl ?_
              rw [(hk_137).rd (k := 184) (i := NAH (wdO k v)) rfl]
              show Wp _ _ _ _ _ _ [gI (σ 184 (NAH (wdO k v))), gR 133]
              refine w_aload_n (pc' := 163) (i := 0) (by rfl) (by rfl) dX12_readRule_162 rfl ?_
              refine w_getS (pc' := 166) (q := 185) fg_X12_175 kd_133 sf_X12_76 gr_133_76 dX12_readRule_163 rfl ?_
              refine w_iload_n (pc' := 167) (i := 3) (by rfl) (by rfl) dX12_readRule_166 rfl ?_
              refine w_iald (pc' := 168) kd_185 (by omega) (by omega) dX12_readRule_167 rfl ?_
              rw [(hk_137).rd (k := 185) (i := NAH (wdO k v)) rfl]
              show Wp _ _ _ _ _ _ [gI (σ 185 (NAH (wdO k v))), gI (σ 184 (NAH (wdO k v))), gR 133]
              refine w_callV (pc' := 171) (d' := 1) (av := [gI (σ 184 (NAH (wdO k v))), gI (σ 185 (NAH (wdO k v)))]) mi_mX12_readNumber lk_X12_478 rfl ci_X12 kd_133 rfl (Nat.le_of_ble_eq_true rfl) (Nat.le_of_ble_eq_true rfl) dX12_readRule_168 rfl ((mp_readNumber hT2 (σ 184 (NAH (wdO k v))) (σ 185 (NAH (wdO k v)))).mono (fun v τ h => rn_of h)) (fun v_168 σ168 q_168 => ?_)
              obtain ⟨b168, rfl, hO_168⟩ := q_168
              show Wp _ _ _ _ _ _ [gI b168]
              refine w_if_ne (pc' := 174) (t := 176) dX12_readRule_171 rfl rfl (fun c_171 => ?_) (fun c_171 => ?_)
              · skip
                have hO2 : k2 = 3 ∧ (σ 184 (NAH (wdO k v)) ≤ v2 ∧ v2 ≤ σ 185 (NAH (wdO k v))) ∧ σ168 = σ137 := by
                  rcases hO_168 with h | h
                  · exact h.2
                  · exact absurd h.1 (by omega)
                have ht55b : σ137 133 55 = q2 := hto2 () (by omega)
                have hvv : ¬ (v2 < gb (wdO k v = 22 ∨ wdO k v = 24) ∨ GRF (wdO k v) < v2) := by rw [← hlh.1, ← hlh.2]; omega
                refine Wp.heq (σ' := σ137) hO2.2.2 ?_
                refine w_aload_n (pc' := 177) (i := 0) (by rfl) (by rfl) dX12_readRule_176 rfl ?_
                refine w_getS (pc' := 180) (q := 177) fg_X12_151 kd_133 sf_X12_68 gr_133_68 dX12_readRule_177 rfl ?_
                refine w_bipush (pc' := 182) (by decide) (by decide) dX12_readRule_180 rfl ?_
                refine w_iload_n (pc' := 183) (i := 3) (by rfl) (by rfl) dX12_readRule_182 rfl ?_
                refine v_iadd (pc' := 184) (by omega) dX12_readRule_183 rfl ?_
                refine w_aload_n (pc' := 185) (i := 0) (by rfl) (by rfl) dX12_readRule_184 rfl ?_
                refine v_getI (pc' := 188) (ji := 58) rfl fg_X12_397 kd_133 dX12_readRule_185 rfl ?_
                refine w_iast (pc' := 189) kd_177 (by omega) (by omega) dX12_readRule_188 rfl ?_
                refine w_aload_n (pc' := 190) (i := 0) (by rfl) (by rfl) dX12_readRule_189 rfl ?_
                refine w_callV (pc' := 193) (d' := 1) (av := []) mi_mX12_go lk_X12_444 rfl ci_X12 kd_133 rfl (Nat.le_of_ble_eq_true rfl) (Nat.le_of_ble_eq_true rfl) dX12_readRule_190 rfl (mg_go (σ := gUp σ137 177 (30 + (NAH (wdO k v))) (σ137 133 58)) (show σ137 133 54 ≤ 540 by omega) (show 0 ≤ σ137 133 55 ∧ σ137 133 55 ≤ σ137 133 54 by omega)) (fun v_190 σ190 q_190 => ?_)
                obtain ⟨rfl, hk_190, ht_190⟩ := q_190
                show Wp _ _ _ _ _ _ []
                have e54_190 : σ190 133 54 = L := (hk_190.rd (k := 133) (i := 54) rfl).trans e54_137
                have e134_190 : σ190 134 = T := (hk_190.row (k := 134) (by decide)).trans e134_137
                have hm190 : MTK T L q2 σ190 := ht_190.tr e134_137 e54_137 ht55b
                obtain ⟨a3, q3, k3, v3, hT3⟩ := hm190.of
                have hq3 : 0 ≤ q3 ∧ q3 ≤ L := ⟨(TOKN_in hq2 hT3.1).1, (TOKN_in hq2 hT3.1).2.1⟩
                have hto3 : ∀ _ : Unit, k3 ≠ 0 → σ190 133 55 = q3 := fun _ => hT3.rest.2.2.2
                obtain ⟨S2, u1, u2, u3, u4, u5, u6, u7, u8⟩ := RS_set s1 s2 I1 hs8 s6 hw8 hT2 hO2.1 hvv s5 (hT2.num.2 hO2.1) (by rw [← hnah.1]; exact hk_190)
                rw [← u4] at hT3
                have hsg := hT3.sign (c := 59) (by decide)
                have h175c : σ190 175 6 = S2 68 3 := by rw [hk_190.row (k := 175) (by decide), u6]; exact h175b
                have I2 : INVb L S2 := (u1.inv I0) (Classical.not_not.mp fun c => u2 (Or.inl c))
                refine w_aload_n (pc' := 194) (i := 0) (by rfl) (by rfl) dX12_readRule_193 rfl ?_
                refine v_getI (pc' := 197) (ji := 57) rfl fg_X12_385 kd_133 dX12_readRule_194 rfl ?_
                refine w_iconst (pc' := 198) (by decide) dX12_readRule_197 rfl ?_
                refine w_icmp_ne (pc' := 201) (t := 210) dX12_readRule_198 rfl rfl (fun c_198 => ?_) (fun c_198 => ?_)
                · skip
                  refine w_aload_n (pc' := 211) (i := 0) (by rfl) (by rfl) dX12_readRule_210 rfl ?_
                  refine w_iconst (pc' := 212) (by decide) dX12_readRule_211 rfl ?_
                  refine w_callV (pc' := 215) (d' := 0) (av := [gI 1]) mi_mX12_bad lk_X12_409 rfl ci_X12 kd_133 rfl (Nat.le_of_ble_eq_true rfl) (Nat.le_of_ble_eq_true rfl) dX12_readRule_212 rfl (mg_bad (σ := σ190) 1) (fun v_212 σ_212 q_212 => ?_)
                  obtain ⟨rfl, y_212, rfl, hy_212⟩ := q_212
                  refine Wp.heq (σ' := gUp (gUp σ190 133 60 y_212) 133 61 (σ190 133 56)) ((congrArg (fun z => gUp z 133 61 (σ190 133 56)) rfl).trans rfl) ?_
                  show Wp _ _ _ _ _ _ [gI 0]
                  refine w_if_eq (pc' := 218) (t := 222) dX12_readRule_215 rfl rfl (fun c_215 => ?_) (fun c_215 => ?_)
                  · skip
                    refine w_iconst (pc' := 223) (by decide) dX12_readRule_222 rfl ?_
                    refine w_zreturn rfl (.inl rfl) dX12_readRule_223 ?_
                    exact Or.inr ⟨rfl, BADE_mk u1 u2 hT3 u5.1 (f := 1) (RS_bad u3 (fun x => by have := hsg.mpr x; omega)) (by decide) (Or.inl rfl) hy_212 rfl⟩
                  · skip
                    exact absurd c_215 (by decide)
                · skip
                  refine w_aload_n (pc' := 202) (i := 0) (by rfl) (by rfl) dX12_readRule_201 rfl ?_
                  refine v_getI (pc' := 205) (ji := 59) rfl fg_X12_391 kd_133 dX12_readRule_202 rfl ?_
                  refine w_bipush (pc' := 207) (by decide) (by decide) dX12_readRule_205 rfl ?_
                  refine w_icmp_eq (pc' := 210) (t := 218) dX12_readRule_207 rfl rfl (fun c_207 => ?_) (fun c_207 => ?_)
                  · skip
                    refine w_iconst (pc' := 219) (by decide) dX12_readRule_218 rfl ?_
                    refine w_goto (pc' := 223) dX12_readRule_219 rfl ?_
                    refine w_zreturn rfl (.inr rfl) dX12_readRule_223 ?_
                    exact Or.inl ⟨rfl, (RS_end u1 u2 I2 u3 hT3 (hsg.mp ⟨by omega, by omega⟩) u5 h175c).from (by omega) (by rw [u7, s9])⟩
                  · skip
                    refine w_aload_n (pc' := 211) (i := 0) (by rfl) (by rfl) dX12_readRule_210 rfl ?_
                    refine w_iconst (pc' := 212) (by decide) dX12_readRule_211 rfl ?_
                    refine w_callV (pc' := 215) (d' := 0) (av := [gI 1]) mi_mX12_bad lk_X12_409 rfl ci_X12 kd_133 rfl (Nat.le_of_ble_eq_true rfl) (Nat.le_of_ble_eq_true rfl) dX12_readRule_212 rfl (mg_bad (σ := σ190) 1) (fun v_212 σ_212 q_212 => ?_)
                    obtain ⟨rfl, y_212, rfl, hy_212⟩ := q_212
                    refine Wp.heq (σ' := gUp (gUp σ190 133 60 y_212) 133 61 (σ190 133 56)) ((congrArg (fun z => gUp z 133 61 (σ190 133 56)) rfl).trans rfl) ?_
                    show Wp _ _ _ _ _ _ [gI 0]
                    refine w_if_eq (pc' := 218) (t := 222) dX12_readRule_215 rfl rfl (fun c_215 => ?_) (fun c_215 => ?_)
                    · skip
                      refine w_iconst (pc' := 223) (by decide) dX12_readRule_222 rfl ?_
                      refine w_zreturn rfl (.inl rfl) dX12_readRule_223 ?_
                      exact Or.inr ⟨rfl, BADE_mk u1 u2 hT3 u5.1 (f := 1) (RS_bad u3 (fun x => by have := hsg.mpr x; omega)) (by decide) (Or.inl rfl) hy_212 rfl⟩
                    · skip
                      exact absurd c_215 (by decide)
              · skip
                refine w_iconst (pc' := 175) (by decide) dX12_readRule_174 rfl ?_
                refine w_zreturn rfl (.inl rfl) dX12_readRule_175 ?_
                rcases hO_168 with h | h
                · exact absurd h.1 (by omega)
                · obtain ⟨f, e1, e2⟩ := h.2.2
                  refine Or.inr ⟨rfl, BADE_rn s1 s2 hT2 s5.1 (f := f) ?_ e2 e1⟩
                  have hn3 := h.2.1
                  rw [hlh.1, hlh.2] at hn3
                  rw [LTS_f hs8, e2, s6]
                  by_cases c : k2 = 3
                  · rw [if_pos c, if_pos c, if_pos (by omega)]
                  · rw [if_neg c, if_neg c]
            · skip
              refine w_aload_n (pc' := 149) (i := 0) (by rfl) (by rfl) dX12_readRule_148 rfl ?_
              refine w_iload (pc' := 151) (by rfl) dX12_readRule_149 rfl ?_
              refine w_callV (pc' := 154) (d' := 5) (av := [gI (TLB (wdO k v))]) mi_mX12_readIf lk_X12_481 rfl ci_X12 kd_133 rfl (Nat.le_of_ble_eq_true rfl) (Nat.le_of_ble_eq_true rfl) dX12_readRule_151 rfl ((mr_readIf I0 s1 s2 eT hLL (Or.inr (by rw [s3]; exact if_pos (by omega))) hT2 s5 (TLB (wdO k v)) (Or.inr ⟨s7, by (rw [s6]; unfold TLB; (repeat' split) <;> omega), h175b⟩)).mono (fun v τ h => bb_of h)) (fun v_151 σ151 q_151 => ?_)
              obtain ⟨b151, rfl, hO_151⟩ := q_151
              show Wp _ _ _ _ _ _ [gI b151]
              refine w_zreturn rfl (by rcases hO_151 with h | h <;> omega) dX12_readRule_154 ?_
              rcases hO_151 with h | h
              · rw [h.1]; exact Or.inl ⟨rfl, h.2.from (by omega) s9⟩
              · rw [h.1]; exact Or.inr ⟨rfl, h.2⟩
        · skip
          refine w_aload_n (pc' := 118) (i := 0) (by rfl) (by rfl) dX12_readRule_117 rfl ?_
          refine w_iconst (pc' := 119) (by decide) dX12_readRule_118 rfl ?_
          refine w_callV (pc' := 122) (d' := 0) (av := [gI 3]) mi_mX12_bad lk_X12_409 rfl ci_X12 kd_133 rfl (Nat.le_of_ble_eq_true rfl) (Nat.le_of_ble_eq_true rfl) dX12_readRule_119 rfl (mg_bad (σ := σ) 3) (fun v_119 σ_119 q_119 => ?_)
          obtain ⟨rfl, y_119, rfl, hy_119⟩ := q_119
          refine Wp.heq (σ' := gUp (gUp σ 133 60 y_119) 133 61 (σ 133 56)) ((congrArg (fun z => gUp z 133 61 (σ 133 56)) rfl).trans rfl) ?_
          show Wp _ _ _ _ _ _ [gI 0]
          refine w_zreturn rfl (.inl rfl) dX12_readRule_122 ?_
          exact Or.inr ⟨rfl, BADE_mk hR hf hT R.1 (f := 3) (RR_bad3 h0 (by omega) (by rcases hj64 with x | x; exact Or.inl x; exact Or.inr (by omega)) (Or.inr ⟨by omega, hbt.mpr (show gB32 (fun a b => a &&& b) (gB32 (fun a b => a >>> (b &&& 31)) (σ 133 62) (TLB (wdO k v))) 1 ≠ 0 by omega)⟩)) (by decide) (Or.inr (by omega)) hy_119 rfl⟩
      refine w_iload_n (pc' := 84) (i := 1) (by rfl) (by rfl) dX12_readRule_83 rfl ?_
      refine v_if_eqB (pc' := 87) (t := 92) dX12_readRule_84 rfl rfl (fun c_84 => ?_) (fun c_84 => ?_)
      · skip
        refine w_iload_n (pc' := 93) (i := 2) (by rfl) (by rfl) dX12_readRule_92 rfl ?_
        refine v_if_eqB (pc' := 96) (t := 101) dX12_readRule_93 rfl rfl (fun c_93 => ?_) (fun c_93 => ?_)
        · skip
          refine w_iload_n (pc' := 102) (i := 3) (by rfl) (by rfl) dX12_readRule_101 rfl ?_
          exact Wp.stI (by first | (exfalso; omega) | (first | (unfold TLB; (repeat' split) <;> omega) | exact ((NAH_in hwi (by omega) (by omega)).2 (by omega)).1)) hj_102
        · skip
          refine w_bipush (pc' := 98) (by decide) (by decide) dX12_readRule_96 rfl ?_
          refine w_goto (pc' := 102) dX12_readRule_98 rfl ?_
          exact Wp.stI (by first | (exfalso; omega) | (first | (unfold TLB; (repeat' split) <;> omega) | exact ((NAH_in hwi (by omega) (by omega)).2 (by omega)).1)) hj_102
      · skip
        refine w_bipush (pc' := 89) (by decide) (by decide) dX12_readRule_87 rfl ?_
        refine w_goto (pc' := 102) dX12_readRule_89 rfl ?_
        exact Wp.stI (by first | (exfalso; omega) | (first | (unfold TLB; (repeat' split) <;> omega) | exact ((NAH_in hwi (by omega) (by omega)).2 (by omega)).1)) hj_102
    refine w_iload_n (pc' := 65) (i := 1) (by rfl) (by rfl) dX12_readRule_64 rfl ?_
    refine v_if_neB (pc' := 68) (t := 83) dX12_readRule_65 rfl rfl (fun c_65 => ?_) (fun c_65 => ?_)
    · skip
      exact hj_83 (by first | omega | (have := (NAH_in hwi (by omega) (by omega)).1; have := Classical.not_not.mp (fun z => c_74 (this.mpr z)); omega))
    · skip
      refine w_iload_n (pc' := 69) (i := 2) (by rfl) (by rfl) dX12_readRule_68 rfl ?_
      refine v_if_neB (pc' := 72) (t := 83) dX12_readRule_69 rfl rfl (fun c_69 => ?_) (fun c_69 => ?_)
      · skip
        exact hj_83 (by first | omega | (have := (NAH_in hwi (by omega) (by omega)).1; have := Classical.not_not.mp (fun z => c_74 (this.mpr z)); omega))
      · skip
        refine w_iload_n (pc' := 73) (i := 3) (by rfl) (by rfl) dX12_readRule_72 rfl ?_
        refine w_iconst (pc' := 74) (by decide) dX12_readRule_73 rfl ?_
        refine w_icmp_ne (pc' := 77) (t := 83) dX12_readRule_74 rfl rfl (fun c_74 => ?_) (fun c_74 => ?_)
        · skip
          exact hj_83 (by first | omega | (have := (NAH_in hwi (by omega) (by omega)).1; have := Classical.not_not.mp (fun z => c_74 (this.mpr z)); omega))
        · skip
          refine w_aload_n (pc' := 78) (i := 0) (by rfl) (by rfl) dX12_readRule_77 rfl ?_
          refine w_iconst (pc' := 79) (by decide) dX12_readRule_78 rfl ?_
          refine w_callV (pc' := 82) (d' := 0) (av := [gI 1]) mi_mX12_bad lk_X12_409 rfl ci_X12 kd_133 rfl (Nat.le_of_ble_eq_true rfl) (Nat.le_of_ble_eq_true rfl) dX12_readRule_79 rfl (mg_bad (σ := σ) 1) (fun v_79 σ_79 q_79 => ?_)
          obtain ⟨rfl, y_79, rfl, hy_79⟩ := q_79
          refine Wp.heq (σ' := gUp (gUp σ 133 60 y_79) 133 61 (σ 133 56)) ((congrArg (fun z => gUp z 133 61 (σ 133 56)) rfl).trans rfl) ?_
          show Wp _ _ _ _ _ _ [gI 0]
          refine w_zreturn rfl (.inl rfl) dX12_readRule_82 ?_
          exact Or.inr ⟨rfl, BADE_mk hR hf hT R.1 (f := 1) (RR_bad1L h0 hL1 hk0 (fun x => by have := (NAH_in hwi (by omega) (by omega)).1.mp (by omega); rcases x with x | x <;> omega)) (by decide) (Or.inl rfl) hy_79 rfl⟩
  · skip
    refine w_aload_n (pc' := 21) (i := 0) (by rfl) (by rfl) dX12_readRule_20 rfl ?_
    refine w_callV (pc' := 24) (d' := 6) (av := []) mi_mX12_readTell lk_X12_484 rfl ci_X12 kd_133 rfl (Nat.le_of_ble_eq_true rfl) (Nat.le_of_ble_eq_true rfl) dX12_readRule_21 rfl ((mr_readTell I0 hR hf eT hLL h0 hT (by omega) R h175).mono (fun v τ h => bb_of h)) (fun v_21 σ21 q_21 => ?_)
    obtain ⟨b21, rfl, hO_21⟩ := q_21
    show Wp _ _ _ _ _ _ [gI b21]
    refine w_zreturn rfl (by rcases hO_21 with h | h <;> omega) dX12_readRule_24 ?_
    rcases hO_21 with h | h
    · rw [h.1]; exact Or.inl ⟨rfl, h.2⟩
    · rw [h.1]; exact Or.inr ⟨rfl, h.2⟩
