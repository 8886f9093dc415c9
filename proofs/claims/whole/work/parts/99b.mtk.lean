/-! the reference reads a token: words, signs, faults (gen/mod_mtk.py) -/
def SPL (a b c d e f : Int) : Int :=
  let v1 := 27 * (a - 96) + b - 96
  let v2 := if 0 < c then 27 * v1 + c - 96 else v1
  let v3 := if 0 < d then 27 * v2 + d - 96 else v2
  let v4 := if 0 < e then 27 * v3 + e - 96 else v3
  if 0 < f then 27 * v4 + f - 96 else v4
def wdO (k v : Int) : Int := if k = 2 then v else -1
theorem wdO_iff {k v w : Int} (h : 0 ≤ w) : wdO k v = w ↔ k = 2 ∧ v = w := by
  unfold wdO
  split <;> omega
theorem kwc_0 : KC 4 = 144524 ∧ gCh 4 = 32 ∧ wcn (Int.toNat 4) = 0 := by decide +kernel
theorem kwc_1 : KC 9 = 259563 ∧ gCh 9 = 32 ∧ wcn (Int.toNat 9) = 1 := by decide +kernel
theorem kwc_2 : KC 17 = 4100963416 ∧ gCh 17 = 32 ∧ wcn (Int.toNat 17) = 2 := by decide +kernel
theorem kwc_3 : KC 23 = 10256063 ∧ gCh 23 = 32 ∧ wcn (Int.toNat 23) = 3 := by decide +kernel
theorem kwc_4 : KC 31 = 2549427656 ∧ gCh 31 = 32 ∧ wcn (Int.toNat 31) = 4 := by decide +kernel
theorem kwc_5 : KC 36 = 40187 ∧ gCh 36 = 32 ∧ wcn (Int.toNat 36) = 5 := by decide +kernel
theorem kwc_6 : KC 42 = 6476969 ∧ gCh 42 = 32 ∧ wcn (Int.toNat 42) = 6 := by decide +kernel
theorem kwc_7 : KC 47 = 267347 ∧ gCh 47 = 32 ∧ wcn (Int.toNat 47) = 7 := by decide +kernel
theorem kwc_8 : KC 51 = 8276 ∧ gCh 51 = 32 ∧ wcn (Int.toNat 51) = 8 := by decide +kernel
theorem kwc_9 : KC 55 = 14431 ∧ gCh 55 = 32 ∧ wcn (Int.toNat 55) = 9 := by decide +kernel
theorem kwc_10 : KC 61 = 1905275 ∧ gCh 61 = 32 ∧ wcn (Int.toNat 61) = 10 := by decide +kernel
theorem kwc_11 : KC 66 = 326396 ∧ gCh 66 = 32 ∧ wcn (Int.toNat 66) = 11 := by decide +kernel
theorem kwc_12 : KC 71 = 316163 ∧ gCh 71 = 32 ∧ wcn (Int.toNat 71) = 12 := by decide +kernel
theorem kwc_13 : KC 79 = 4398521879 ∧ gCh 79 = 32 ∧ wcn (Int.toNat 79) = 13 := by decide +kernel
theorem kwc_14 : KC 83 = 10631 ∧ gCh 83 = 32 ∧ wcn (Int.toNat 83) = 14 := by decide +kernel
theorem kwc_15 : KC 87 = 1111 ∧ gCh 87 = 32 ∧ wcn (Int.toNat 87) = 15 := by decide +kernel
theorem kwc_16 : KC 90 = 423 ∧ gCh 90 = 32 ∧ wcn (Int.toNat 90) = 16 := by decide +kernel
theorem kwc_17 : KC 93 = 249 ∧ gCh 93 = 32 ∧ wcn (Int.toNat 93) = 17 := by decide +kernel
theorem kwc_18 : KC 100 = 335207579 ∧ gCh 100 = 32 ∧ wcn (Int.toNat 100) = 18 := by decide +kernel
theorem kwc_19 : KC 105 = 397641 ∧ gCh 105 = 32 ∧ wcn (Int.toNat 105) = 19 := by decide +kernel
theorem kwc_20 : KC 109 = 14114 ∧ gCh 109 = 32 ∧ wcn (Int.toNat 109) = 20 := by decide +kernel
theorem kwc_21 : KC 113 = 9529 ∧ gCh 113 = 32 ∧ wcn (Int.toNat 113) = 21 := by decide +kernel
theorem kwc_22 : KC 118 = 495765 ∧ gCh 118 = 32 ∧ wcn (Int.toNat 118) = 22 := by decide +kernel
theorem kwc_23 : KC 122 = 11263 ∧ gCh 122 = 32 ∧ wcn (Int.toNat 122) = 23 := by decide +kernel
theorem kwc_24 : KC 127 = 243146 ∧ gCh 127 = 32 ∧ wcn (Int.toNat 127) = 24 := by decide +kernel
theorem kwc_25 : KC 134 = 255400627 ∧ gCh 134 = 32 ∧ wcn (Int.toNat 134) = 25 := by decide +kernel
/-- the token of both: the reference's fields for it -/
def TKS (T : Int → Int) (L p a q k v : Int) (σ : gH) : Prop := TOKN T L (EDG L) p a q k v ∧ MFD T L a q k v σ
theorem EDG_le (L : Int) : EDG L ≤ L := by have := EDG_in L; omega
theorem TKS.of {T : Int → Int} {L p a q k v : Int} {σ : gH} (h : MTK T L p σ) (t : TOKN T L (EDG L) p a q k v) : TKS T L p a q k v σ := by
  obtain ⟨a', q', k', v', t', m⟩ := h
  obtain ⟨e1, e2, e3, e4⟩ := TOKN_one (EDG_le L) t' t
  subst e1 e2 e3 e4
  exact ⟨t, m⟩
theorem TOKN_word {T : Int → Int} {L E p a q k v : Int} (h : TOKN T L E p a q k v) (hk : k = 2) : a ≤ q ∧ (∀ i, 0 ≤ i → i < q - a → ltr (T (a + i))) ∧ KWD (fun j => T (a + j)) (q - a) v := by
  rcases h with h | ⟨h1, h2, h3, h4, h5⟩
  · omega
  · rcases h5 with ⟨x1, x2, x3⟩ | ⟨x1, x2, x3, x4⟩
    · rcases x3 with x3 | x3 | x3
      · exact ⟨x2.1, fun i a b => x3.1 _ (by omega) (by omega), x3.2.2⟩
      · omega
      · obtain ⟨_, _, x4, _⟩ := x3
        omega
    · rcases x4 with x4 | x4
      · have := x4.1
        omega
      · omega
theorem TKS.key {T : Int → Int} {L p a q k v : Int} {σ : gH} (h : TKS T L p a q k v σ) {i c w : Int} (hi : KC i = c ∧ gCh i = 32 ∧ wcn i.toNat = w) (i0 : 0 ≤ i) (i1 : i < 135) (w0 : 0 ≤ w) : (σ 133 57 = 2 ∧ σ 133 63 = c) ↔ wdO k v = w := by
  rw [wdO_iff w0]
  have m := h.2.2
  by_cases hk : k = 2
  · obtain ⟨x1, x2, x3⟩ := TOKN_word h.1 hk
    have y := KWD_code (i := i) i0 i1 hi.2.1 (show 0 ≤ q - a by omega) x2 x3
    rw [hi.1, hi.2.2] at y
    rcases m with m | ⟨_, m | m | m | m⟩
    · omega
    · omega
    · rw [m.2.1, m.2.2, y]
      exact ⟨fun z => ⟨hk, z.2⟩, fun z => ⟨rfl, z.2⟩⟩
    · omega
    · omega
  · refine ⟨fun z => ?_, fun z => absurd z.1 hk⟩
    rcases m with m | ⟨_, m | m | m | m⟩ <;> omega
theorem TKS.sign {T : Int → Int} {L p a q k v : Int} {σ : gH} (h : TKS T L p a q k v σ) {c : Int} (hc : sgn c) : (σ 133 57 = 4 ∧ σ 133 59 = c) ↔ k = c := by
  have m := h.2.2
  rcases m with m | ⟨_, m | m | m | m⟩ <;> omega
theorem TKS.num {T : Int → Int} {L p a q k v : Int} {σ : gH} (h : TKS T L p a q k v σ) : (σ 133 57 = 3 ↔ k = 3) ∧ (k = 3 → σ 133 58 = v) := by
  have m := h.2.2
  rcases m with m | ⟨_, m | m | m | m⟩ <;> omega
/-- the end, or what can't be read -/
theorem TKS.rest {T : Int → Int} {L p a q k v : Int} {σ : gH} (h : TKS T L p a q k v σ) : (σ 133 57 = 0 ↔ k = 0 ∧ L ≤ 500) ∧ (σ 133 57 = 1 ↔ k = 1 ∨ (k = 0 ∧ 500 < L)) ∧ σ 133 56 = a ∧ (k ≠ 0 → σ 133 55 = q) := by
  have m := h.2
  obtain ⟨m0, m⟩ := m
  rcases m with m | ⟨_, m | m | m | m⟩ <;> omega
theorem MFD.keep {T : Int → Int} {L a q k v : Int} {σ σ' : gH} (h : MFD T L a q k v σ) (e : ∀ j, (55 ≤ j ∧ j ≤ 59) ∨ j = 63 → σ' 133 j = σ 133 j) : MFD T L a q k v σ' := by
  unfold MFD at *
  rw [e 55 (by omega), e 56 (by omega), e 57 (by omega), e 58 (by omega), e 59 (by omega), e 63 (by omega)]
  exact h
theorem mg_spelt {σ : gH} (a b c d e f : Int) (ha : 96 ≤ a ∧ a ≤ 122) (hb : 96 ≤ b ∧ b ≤ 122) (hc : 0 ≤ c ∧ c ≤ 122) (hd : 0 ≤ d ∧ d ≤ 122) (he : 0 ≤ e ∧ e ≤ 122) (hf : 0 ≤ f ∧ f ≤ 122) : Mt mX12_spelt 0 [gI a, gI b, gI c, gI d, gI e, gI f] σ (rE (gJ (SPL a b c d e f)) σ) := by
  refine Mt.walk (ls := [gI a, gI b, gI c, gI d, gI e, gI f, gX 1, gX 1]) pn_X12 rfl (fun _ _ h => by cases h.1) (Nat.le_of_ble_eq_true rfl) rfl ?_
  refine w_iload_n (pc' := 1) (i := 0) (by rfl) (by rfl) dX12_spelt_0 rfl ?_
  refine w_i2l (pc' := 2) dX12_spelt_1 rfl ?_
  refine w_ldc2 (pc' := 5) (by decide) ct_X12_267 dX12_spelt_2 rfl ?_
  refine v_lsub (pc' := 6) (by omega) dX12_spelt_5 rfl ?_
  refine w_lstore (pc' := 8) (ls' := [gI a, gI b, gI c, gI d, gI e, gI f, gJ (a - 96), gX 1]) (by decide) (by rfl) dX12_spelt_6 rfl ?_
  refine w_ldc2 (pc' := 11) (by decide) ct_X12_265 dX12_spelt_8 rfl ?_
  refine w_lload (pc' := 13) (by rfl) dX12_spelt_11 rfl ?_
  refine v_lmul (pc' := 14) (by omega) dX12_spelt_13 rfl ?_
  refine w_iload_n (pc' := 15) (i := 1) (by rfl) (by rfl) dX12_spelt_14 rfl ?_
  refine w_i2l (pc' := 16) dX12_spelt_15 rfl ?_
  refine v_ladd (pc' := 17) (by omega) dX12_spelt_16 rfl ?_
  refine w_ldc2 (pc' := 20) (by decide) ct_X12_267 dX12_spelt_17 rfl ?_
  refine v_lsub (pc' := 21) (by omega) dX12_spelt_20 rfl ?_
  refine w_lstore (pc' := 23) (ls' := [gI a, gI b, gI c, gI d, gI e, gI f, gJ (((27 * (a - 96)) + b) - 96), gX 1]) (by decide) (by rfl) dX12_spelt_21 rfl ?_
  refine w_iload_n (pc' := 24) (i := 2) (by rfl) (by rfl) dX12_spelt_23 rfl ?_
  refine w_if_le (pc' := 27) (t := 42) dX12_spelt_24 rfl rfl (fun c_24 => ?_) (fun c_24 => ?_)
  · skip
    refine w_iload_n (pc' := 43) (i := 3) (by rfl) (by rfl) dX12_spelt_42 rfl ?_
    refine w_if_le (pc' := 46) (t := 61) dX12_spelt_43 rfl rfl (fun c_43 => ?_) (fun c_43 => ?_)
    · skip
      refine w_iload (pc' := 63) (by rfl) dX12_spelt_61 rfl ?_
      refine w_if_le (pc' := 66) (t := 82) dX12_spelt_63 rfl rfl (fun c_63 => ?_) (fun c_63 => ?_)
      · skip
        refine w_iload (pc' := 84) (by rfl) dX12_spelt_82 rfl ?_
        refine w_if_le (pc' := 87) (t := 104) dX12_spelt_84 rfl rfl (fun c_84 => ?_) (fun c_84 => ?_)
        · skip
          refine w_lload (pc' := 106) (by rfl) dX12_spelt_104 rfl ?_
          refine w_lreturn rfl dX12_spelt_106 ?_
          first | (exfalso; omega) | exact ⟨congrArg gJ (by unfold SPL; simp only []; (repeat' split) <;> omega), rfl⟩
        · skip
          refine w_ldc2 (pc' := 90) (by decide) ct_X12_265 dX12_spelt_87 rfl ?_
          refine w_lload (pc' := 92) (by rfl) dX12_spelt_90 rfl ?_
          refine v_lmul (pc' := 93) (by omega) dX12_spelt_92 rfl ?_
          refine w_iload (pc' := 95) (by rfl) dX12_spelt_93 rfl ?_
          refine w_i2l (pc' := 96) dX12_spelt_95 rfl ?_
          refine v_ladd (pc' := 97) (by omega) dX12_spelt_96 rfl ?_
          refine w_ldc2 (pc' := 100) (by decide) ct_X12_267 dX12_spelt_97 rfl ?_
          refine v_lsub (pc' := 101) (by omega) dX12_spelt_100 rfl ?_
          refine w_goto (pc' := 106) dX12_spelt_101 rfl ?_
          refine w_lreturn rfl dX12_spelt_106 ?_
          first | (exfalso; omega) | exact ⟨congrArg gJ (by unfold SPL; simp only []; (repeat' split) <;> omega), rfl⟩
      · skip
        refine w_ldc2 (pc' := 69) (by decide) ct_X12_265 dX12_spelt_66 rfl ?_
        refine w_lload (pc' := 71) (by rfl) dX12_spelt_69 rfl ?_
        refine v_lmul (pc' := 72) (by omega) dX12_spelt_71 rfl ?_
        refine w_iload (pc' := 74) (by rfl) dX12_spelt_72 rfl ?_
        refine w_i2l (pc' := 75) dX12_spelt_74 rfl ?_
        refine v_ladd (pc' := 76) (by omega) dX12_spelt_75 rfl ?_
        refine w_ldc2 (pc' := 79) (by decide) ct_X12_267 dX12_spelt_76 rfl ?_
        refine v_lsub (pc' := 80) (by omega) dX12_spelt_79 rfl ?_
        refine w_lstore (pc' := 82) (ls' := [gI a, gI b, gI c, gI d, gI e, gI f, gJ (((27 * (((27 * (a - 96)) + b) - 96)) + e) - 96), gX 1]) (by decide) (by rfl) dX12_spelt_80 rfl ?_
        refine w_iload (pc' := 84) (by rfl) dX12_spelt_82 rfl ?_
        refine w_if_le (pc' := 87) (t := 104) dX12_spelt_84 rfl rfl (fun c_84 => ?_) (fun c_84 => ?_)
        · skip
          refine w_lload (pc' := 106) (by rfl) dX12_spelt_104 rfl ?_
          refine w_lreturn rfl dX12_spelt_106 ?_
          first | (exfalso; omega) | exact ⟨congrArg gJ (by unfold SPL; simp only []; (repeat' split) <;> omega), rfl⟩
        · skip
          refine w_ldc2 (pc' := 90) (by decide) ct_X12_265 dX12_spelt_87 rfl ?_
          refine w_lload (pc' := 92) (by rfl) dX12_spelt_90 rfl ?_
          refine v_lmul (pc' := 93) (by omega) dX12_spelt_92 rfl ?_
          refine w_iload (pc' := 95) (by rfl) dX12_spelt_93 rfl ?_
          refine w_i2l (pc' := 96) dX12_spelt_95 rfl ?_
          refine v_ladd (pc' := 97) (by omega) dX12_spelt_96 rfl ?_
          refine w_ldc2 (pc' := 100) (by decide) ct_X12_267 dX12_spelt_97 rfl ?_
          refine v_lsub (pc' := 101) (by omega) dX12_spelt_100 rfl ?_
          refine w_goto (pc' := 106) dX12_spelt_101 rfl ?_
          refine w_lreturn rfl dX12_spelt_106 ?_
          first | (exfalso; omega) | exact ⟨congrArg gJ (by unfold SPL; simp only []; (repeat' split) <;> omega), rfl⟩
    · skip
      refine w_ldc2 (pc' := 49) (by decide) ct_X12_265 dX12_spelt_46 rfl ?_
      refine w_lload (pc' := 51) (by rfl) dX12_spelt_49 rfl ?_
      refine v_lmul (pc' := 52) (by omega) dX12_spelt_51 rfl ?_
      refine w_iload_n (pc' := 53) (i := 3) (by rfl) (by rfl) dX12_spelt_52 rfl ?_
      refine w_i2l (pc' := 54) dX12_spelt_53 rfl ?_
      refine v_ladd (pc' := 55) (by omega) dX12_spelt_54 rfl ?_
      refine w_ldc2 (pc' := 58) (by decide) ct_X12_267 dX12_spelt_55 rfl ?_
      refine v_lsub (pc' := 59) (by omega) dX12_spelt_58 rfl ?_
      refine w_lstore (pc' := 61) (ls' := [gI a, gI b, gI c, gI d, gI e, gI f, gJ (((27 * (((27 * (a - 96)) + b) - 96)) + d) - 96), gX 1]) (by decide) (by rfl) dX12_spelt_59 rfl ?_
      refine w_iload (pc' := 63) (by rfl) dX12_spelt_61 rfl ?_
      refine w_if_le (pc' := 66) (t := 82) dX12_spelt_63 rfl rfl (fun c_63 => ?_) (fun c_63 => ?_)
      · skip
        refine w_iload (pc' := 84) (by rfl) dX12_spelt_82 rfl ?_
        refine w_if_le (pc' := 87) (t := 104) dX12_spelt_84 rfl rfl (fun c_84 => ?_) (fun c_84 => ?_)
        · skip
          refine w_lload (pc' := 106) (by rfl) dX12_spelt_104 rfl ?_
          refine w_lreturn rfl dX12_spelt_106 ?_
          first | (exfalso; omega) | exact ⟨congrArg gJ (by unfold SPL; simp only []; (repeat' split) <;> omega), rfl⟩
        · skip
          refine w_ldc2 (pc' := 90) (by decide) ct_X12_265 dX12_spelt_87 rfl ?_
          refine w_lload (pc' := 92) (by rfl) dX12_spelt_90 rfl ?_
          refine v_lmul (pc' := 93) (by omega) dX12_spelt_92 rfl ?_
          refine w_iload (pc' := 95) (by rfl) dX12_spelt_93 rfl ?_
          refine w_i2l (pc' := 96) dX12_spelt_95 rfl ?_
          refine v_ladd (pc' := 97) (by omega) dX12_spelt_96 rfl ?_
          refine w_ldc2 (pc' := 100) (by decide) ct_X12_267 dX12_spelt_97 rfl ?_
          refine v_lsub (pc' := 101) (by omega) dX12_spelt_100 rfl ?_
          refine w_goto (pc' := 106) dX12_spelt_101 rfl ?_
          refine w_lreturn rfl dX12_spelt_106 ?_
          first | (exfalso; omega) | exact ⟨congrArg gJ (by unfold SPL; simp only []; (repeat' split) <;> omega), rfl⟩
      · skip
        refine w_ldc2 (pc' := 69) (by decide) ct_X12_265 dX12_spelt_66 rfl ?_
        refine w_lload (pc' := 71) (by rfl) dX12_spelt_69 rfl ?_
        refine v_lmul (pc' := 72) (by omega) dX12_spelt_71 rfl ?_
        refine w_iload (pc' := 74) (by rfl) dX12_spelt_72 rfl ?_
        refine w_i2l (pc' := 75) dX12_spelt_74 rfl ?_
        refine v_ladd (pc' := 76) (by omega) dX12_spelt_75 rfl ?_
        refine w_ldc2 (pc' := 79) (by decide) ct_X12_267 dX12_spelt_76 rfl ?_
        refine v_lsub (pc' := 80) (by omega) dX12_spelt_79 rfl ?_
        refine w_lstore (pc' := 82) (ls' := [gI a, gI b, gI c, gI d, gI e, gI f, gJ (((27 * (((27 * (((27 * (a - 96)) + b) - 96)) + d) - 96)) + e) - 96), gX 1]) (by decide) (by rfl) dX12_spelt_80 rfl ?_
        refine w_iload (pc' := 84) (by rfl) dX12_spelt_82 rfl ?_
        refine w_if_le (pc' := 87) (t := 104) dX12_spelt_84 rfl rfl (fun c_84 => ?_) (fun c_84 => ?_)
        · skip
          refine w_lload (pc' := 106) (by rfl) dX12_spelt_104 rfl ?_
          refine w_lreturn rfl dX12_spelt_106 ?_
          first | (exfalso; omega) | exact ⟨congrArg gJ (by unfold SPL; simp only []; (repeat' split) <;> omega), rfl⟩
        · skip
          refine w_ldc2 (pc' := 90) (by decide) ct_X12_265 dX12_spelt_87 rfl ?_
          refine w_lload (pc' := 92) (by rfl) dX12_spelt_90 rfl ?_
          refine v_lmul (pc' := 93) (by omega) dX12_spelt_92 rfl ?_
          refine w_iload (pc' := 95) (by rfl) dX12_spelt_93 rfl ?_
          refine w_i2l (pc' := 96) dX12_spelt_95 rfl ?_
          refine v_ladd (pc' := 97) (by omega) dX12_spelt_96 rfl ?_
          refine w_ldc2 (pc' := 100) (by decide) ct_X12_267 dX12_spelt_97 rfl ?_
          refine v_lsub (pc' := 101) (by omega) dX12_spelt_100 rfl ?_
          refine w_goto (pc' := 106) dX12_spelt_101 rfl ?_
          refine w_lreturn rfl dX12_spelt_106 ?_
          first | (exfalso; omega) | exact ⟨congrArg gJ (by unfold SPL; simp only []; (repeat' split) <;> omega), rfl⟩
  · skip
    refine w_ldc2 (pc' := 30) (by decide) ct_X12_265 dX12_spelt_27 rfl ?_
    refine w_lload (pc' := 32) (by rfl) dX12_spelt_30 rfl ?_
    refine v_lmul (pc' := 33) (by omega) dX12_spelt_32 rfl ?_
    refine w_iload_n (pc' := 34) (i := 2) (by rfl) (by rfl) dX12_spelt_33 rfl ?_
    refine w_i2l (pc' := 35) dX12_spelt_34 rfl ?_
    refine v_ladd (pc' := 36) (by omega) dX12_spelt_35 rfl ?_
    refine w_ldc2 (pc' := 39) (by decide) ct_X12_267 dX12_spelt_36 rfl ?_
    refine v_lsub (pc' := 40) (by omega) dX12_spelt_39 rfl ?_
    refine w_lstore (pc' := 42) (ls' := [gI a, gI b, gI c, gI d, gI e, gI f, gJ (((27 * (((27 * (a - 96)) + b) - 96)) + c) - 96), gX 1]) (by decide) (by rfl) dX12_spelt_40 rfl ?_
    refine w_iload_n (pc' := 43) (i := 3) (by rfl) (by rfl) dX12_spelt_42 rfl ?_
    refine w_if_le (pc' := 46) (t := 61) dX12_spelt_43 rfl rfl (fun c_43 => ?_) (fun c_43 => ?_)
    · skip
      refine w_iload (pc' := 63) (by rfl) dX12_spelt_61 rfl ?_
      refine w_if_le (pc' := 66) (t := 82) dX12_spelt_63 rfl rfl (fun c_63 => ?_) (fun c_63 => ?_)
      · skip
        refine w_iload (pc' := 84) (by rfl) dX12_spelt_82 rfl ?_
        refine w_if_le (pc' := 87) (t := 104) dX12_spelt_84 rfl rfl (fun c_84 => ?_) (fun c_84 => ?_)
        · skip
          refine w_lload (pc' := 106) (by rfl) dX12_spelt_104 rfl ?_
          refine w_lreturn rfl dX12_spelt_106 ?_
          first | (exfalso; omega) | exact ⟨congrArg gJ (by unfold SPL; simp only []; (repeat' split) <;> omega), rfl⟩
        · skip
          refine w_ldc2 (pc' := 90) (by decide) ct_X12_265 dX12_spelt_87 rfl ?_
          refine w_lload (pc' := 92) (by rfl) dX12_spelt_90 rfl ?_
          refine v_lmul (pc' := 93) (by omega) dX12_spelt_92 rfl ?_
          refine w_iload (pc' := 95) (by rfl) dX12_spelt_93 rfl ?_
          refine w_i2l (pc' := 96) dX12_spelt_95 rfl ?_
          refine v_ladd (pc' := 97) (by omega) dX12_spelt_96 rfl ?_
          refine w_ldc2 (pc' := 100) (by decide) ct_X12_267 dX12_spelt_97 rfl ?_
          refine v_lsub (pc' := 101) (by omega) dX12_spelt_100 rfl ?_
          refine w_goto (pc' := 106) dX12_spelt_101 rfl ?_
          refine w_lreturn rfl dX12_spelt_106 ?_
          first | (exfalso; omega) | exact ⟨congrArg gJ (by unfold SPL; simp only []; (repeat' split) <;> omega), rfl⟩
      · skip
        refine w_ldc2 (pc' := 69) (by decide) ct_X12_265 dX12_spelt_66 rfl ?_
        refine w_lload (pc' := 71) (by rfl) dX12_spelt_69 rfl ?_
        refine v_lmul (pc' := 72) (by omega) dX12_spelt_71 rfl ?_
        refine w_iload (pc' := 74) (by rfl) dX12_spelt_72 rfl ?_
        refine w_i2l (pc' := 75) dX12_spelt_74 rfl ?_
        refine v_ladd (pc' := 76) (by omega) dX12_spelt_75 rfl ?_
        refine w_ldc2 (pc' := 79) (by decide) ct_X12_267 dX12_spelt_76 rfl ?_
        refine v_lsub (pc' := 80) (by omega) dX12_spelt_79 rfl ?_
        refine w_lstore (pc' := 82) (ls' := [gI a, gI b, gI c, gI d, gI e, gI f, gJ (((27 * (((27 * (((27 * (a - 96)) + b) - 96)) + c) - 96)) + e) - 96), gX 1]) (by decide) (by rfl) dX12_spelt_80 rfl ?_
        refine w_iload (pc' := 84) (by rfl) dX12_spelt_82 rfl ?_
        refine w_if_le (pc' := 87) (t := 104) dX12_spelt_84 rfl rfl (fun c_84 => ?_) (fun c_84 => ?_)
        · skip
          refine w_lload (pc' := 106) (by rfl) dX12_spelt_104 rfl ?_
          refine w_lreturn rfl dX12_spelt_106 ?_
          first | (exfalso; omega) | exact ⟨congrArg gJ (by unfold SPL; simp only []; (repeat' split) <;> omega), rfl⟩
        · skip
          refine w_ldc2 (pc' := 90) (by decide) ct_X12_265 dX12_spelt_87 rfl ?_
          refine w_lload (pc' := 92) (by rfl) dX12_spelt_90 rfl ?_
          refine v_lmul (pc' := 93) (by omega) dX12_spelt_92 rfl ?_
          refine w_iload (pc' := 95) (by rfl) dX12_spelt_93 rfl ?_
          refine w_i2l (pc' := 96) dX12_spelt_95 rfl ?_
          refine v_ladd (pc' := 97) (by omega) dX12_spelt_96 rfl ?_
          refine w_ldc2 (pc' := 100) (by decide) ct_X12_267 dX12_spelt_97 rfl ?_
          refine v_lsub (pc' := 101) (by omega) dX12_spelt_100 rfl ?_
          refine w_goto (pc' := 106) dX12_spelt_101 rfl ?_
          refine w_lreturn rfl dX12_spelt_106 ?_
          first | (exfalso; omega) | exact ⟨congrArg gJ (by unfold SPL; simp only []; (repeat' split) <;> omega), rfl⟩
    · skip
      refine w_ldc2 (pc' := 49) (by decide) ct_X12_265 dX12_spelt_46 rfl ?_
      refine w_lload (pc' := 51) (by rfl) dX12_spelt_49 rfl ?_
      refine v_lmul (pc' := 52) (by omega) dX12_spelt_51 rfl ?_
      refine w_iload_n (pc' := 53) (i := 3) (by rfl) (by rfl) dX12_spelt_52 rfl ?_
      refine w_i2l (pc' := 54) dX12_spelt_53 rfl ?_
      refine v_ladd (pc' := 55) (by omega) dX12_spelt_54 rfl ?_
      refine w_ldc2 (pc' := 58) (by decide) ct_X12_267 dX12_spelt_55 rfl ?_
      refine v_lsub (pc' := 59) (by omega) dX12_spelt_58 rfl ?_
      refine w_lstore (pc' := 61) (ls' := [gI a, gI b, gI c, gI d, gI e, gI f, gJ (((27 * (((27 * (((27 * (a - 96)) + b) - 96)) + c) - 96)) + d) - 96), gX 1]) (by decide) (by rfl) dX12_spelt_59 rfl ?_
      refine w_iload (pc' := 63) (by rfl) dX12_spelt_61 rfl ?_
      refine w_if_le (pc' := 66) (t := 82) dX12_spelt_63 rfl rfl (fun c_63 => ?_) (fun c_63 => ?_)
      · skip
        refine w_iload (pc' := 84) (by rfl) dX12_spelt_82 rfl ?_
        refine w_if_le (pc' := 87) (t := 104) dX12_spelt_84 rfl rfl (fun c_84 => ?_) (fun c_84 => ?_)
        · skip
          refine w_lload (pc' := 106) (by rfl) dX12_spelt_104 rfl ?_
          refine w_lreturn rfl dX12_spelt_106 ?_
          first | (exfalso; omega) | exact ⟨congrArg gJ (by unfold SPL; simp only []; (repeat' split) <;> omega), rfl⟩
        · skip
          refine w_ldc2 (pc' := 90) (by decide) ct_X12_265 dX12_spelt_87 rfl ?_
          refine w_lload (pc' := 92) (by rfl) dX12_spelt_90 rfl ?_
          refine v_lmul (pc' := 93) (by omega) dX12_spelt_92 rfl ?_
          refine w_iload (pc' := 95) (by rfl) dX12_spelt_93 rfl ?_
          refine w_i2l (pc' := 96) dX12_spelt_95 rfl ?_
          refine v_ladd (pc' := 97) (by omega) dX12_spelt_96 rfl ?_
          refine w_ldc2 (pc' := 100) (by decide) ct_X12_267 dX12_spelt_97 rfl ?_
          refine v_lsub (pc' := 101) (by omega) dX12_spelt_100 rfl ?_
          refine w_goto (pc' := 106) dX12_spelt_101 rfl ?_
          refine w_lreturn rfl dX12_spelt_106 ?_
          first | (exfalso; omega) | exact ⟨congrArg gJ (by unfold SPL; simp only []; (repeat' split) <;> omega), rfl⟩
      · skip
        refine w_ldc2 (pc' := 69) (by decide) ct_X12_265 dX12_spelt_66 rfl ?_
        refine w_lload (pc' := 71) (by rfl) dX12_spelt_69 rfl ?_
        refine v_lmul (pc' := 72) (by omega) dX12_spelt_71 rfl ?_
        refine w_iload (pc' := 74) (by rfl) dX12_spelt_72 rfl ?_
        refine w_i2l (pc' := 75) dX12_spelt_74 rfl ?_
        refine v_ladd (pc' := 76) (by omega) dX12_spelt_75 rfl ?_
        refine w_ldc2 (pc' := 79) (by decide) ct_X12_267 dX12_spelt_76 rfl ?_
        refine v_lsub (pc' := 80) (by omega) dX12_spelt_79 rfl ?_
        refine w_lstore (pc' := 82) (ls' := [gI a, gI b, gI c, gI d, gI e, gI f, gJ (((27 * (((27 * (((27 * (((27 * (a - 96)) + b) - 96)) + c) - 96)) + d) - 96)) + e) - 96), gX 1]) (by decide) (by rfl) dX12_spelt_80 rfl ?_
        refine w_iload (pc' := 84) (by rfl) dX12_spelt_82 rfl ?_
        refine w_if_le (pc' := 87) (t := 104) dX12_spelt_84 rfl rfl (fun c_84 => ?_) (fun c_84 => ?_)
        · skip
          refine w_lload (pc' := 106) (by rfl) dX12_spelt_104 rfl ?_
          refine w_lreturn rfl dX12_spelt_106 ?_
          first | (exfalso; omega) | exact ⟨congrArg gJ (by unfold SPL; simp only []; (repeat' split) <;> omega), rfl⟩
        · skip
          refine w_ldc2 (pc' := 90) (by decide) ct_X12_265 dX12_spelt_87 rfl ?_
          refine w_lload (pc' := 92) (by rfl) dX12_spelt_90 rfl ?_
          refine v_lmul (pc' := 93) (by omega) dX12_spelt_92 rfl ?_
          refine w_iload (pc' := 95) (by rfl) dX12_spelt_93 rfl ?_
          refine w_i2l (pc' := 96) dX12_spelt_95 rfl ?_
          refine v_ladd (pc' := 97) (by omega) dX12_spelt_96 rfl ?_
          refine w_ldc2 (pc' := 100) (by decide) ct_X12_267 dX12_spelt_97 rfl ?_
          refine v_lsub (pc' := 101) (by omega) dX12_spelt_100 rfl ?_
          refine w_goto (pc' := 106) dX12_spelt_101 rfl ?_
          refine w_lreturn rfl dX12_spelt_106 ?_
          first | (exfalso; omega) | exact ⟨congrArg gJ (by unfold SPL; simp only []; (repeat' split) <;> omega), rfl⟩
theorem mg_isKey {σ : gH} (w : Int) : Mt mX12_isKey 0 [gR 133, gJ w] σ (rE (gI (gb (σ 133 57 = 2 ∧ σ 133 63 = w))) σ) := by
  refine Mt.walk (ls := [gR 133, gJ w, gX 1]) pn_X12 rfl (fun _ _ h => by cases h.1) (Nat.le_of_ble_eq_true rfl) rfl ?_
  have hc := gCmp_eq (x := σ 133 63) (y := w)
  refine w_aload_n (pc' := 1) (i := 0) (by rfl) (by rfl) dX12_isKey_0 rfl ?_
  refine v_getI (pc' := 4) (ji := 57) rfl fg_X12_385 kd_133 dX12_isKey_1 rfl ?_
  refine w_iconst (pc' := 5) (by decide) dX12_isKey_4 rfl ?_
  refine w_icmp_ne (pc' := 8) (t := 21) dX12_isKey_5 rfl rfl (fun c_5 => ?_) (fun c_5 => ?_)
  · skip
    refine w_iconst (pc' := 22) (by decide) dX12_isKey_21 rfl ?_
    refine w_zreturn rfl (.inl rfl) dX12_isKey_22 ?_
    first | (exfalso; omega) | exact ⟨congrArg gI (gb_t (by omega)).symm, rfl⟩ | exact ⟨congrArg gI (gb_f (by omega)).symm, rfl⟩
  · skip
    refine w_aload_n (pc' := 9) (i := 0) (by rfl) (by rfl) dX12_isKey_8 rfl ?_
    refine v_getJ (pc' := 12) (ji := 63) rfl fg_X12_394 kd_133 dX12_isKey_9 rfl ?_
    refine w_lload_n (pc' := 13) (i := 1) (by rfl) (by rfl) dX12_isKey_12 rfl ?_
    refine w_lcmp (pc' := 14) dX12_isKey_13 rfl ?_
    refine w_if_ne (pc' := 17) (t := 21) dX12_isKey_14 rfl rfl (fun c_14 => ?_) (fun c_14 => ?_)
    · skip
      refine w_iconst (pc' := 22) (by decide) dX12_isKey_21 rfl ?_
      refine w_zreturn rfl (.inl rfl) dX12_isKey_22 ?_
      first | (exfalso; omega) | exact ⟨congrArg gI (gb_t (by omega)).symm, rfl⟩ | exact ⟨congrArg gI (gb_f (by omega)).symm, rfl⟩
    · skip
      refine w_iconst (pc' := 18) (by decide) dX12_isKey_17 rfl ?_
      refine w_goto (pc' := 22) dX12_isKey_18 rfl ?_
      refine w_zreturn rfl (.inr rfl) dX12_isKey_22 ?_
      first | (exfalso; omega) | exact ⟨congrArg gI (gb_t (by omega)).symm, rfl⟩ | exact ⟨congrArg gI (gb_f (by omega)).symm, rfl⟩
theorem mg_isSign {σ : gH} (c : Int) : Mt mX12_isSign 0 [gR 133, gI c] σ (rE (gI (gb (σ 133 57 = 4 ∧ σ 133 59 = c))) σ) := by
  refine Mt.walk (ls := [gR 133, gI c]) pn_X12 rfl (fun _ _ h => by cases h.1) (Nat.le_of_ble_eq_true rfl) rfl ?_
  refine w_aload_n (pc' := 1) (i := 0) (by rfl) (by rfl) dX12_isSign_0 rfl ?_
  refine v_getI (pc' := 4) (ji := 57) rfl fg_X12_385 kd_133 dX12_isSign_1 rfl ?_
  refine w_iconst (pc' := 5) (by decide) dX12_isSign_4 rfl ?_
  refine w_icmp_ne (pc' := 8) (t := 20) dX12_isSign_5 rfl rfl (fun c_5 => ?_) (fun c_5 => ?_)
  · skip
    refine w_iconst (pc' := 21) (by decide) dX12_isSign_20 rfl ?_
    refine w_zreturn rfl (.inl rfl) dX12_isSign_21 ?_
    first | (exfalso; omega) | exact ⟨congrArg gI (gb_t (by omega)).symm, rfl⟩ | exact ⟨congrArg gI (gb_f (by omega)).symm, rfl⟩
  · skip
    refine w_aload_n (pc' := 9) (i := 0) (by rfl) (by rfl) dX12_isSign_8 rfl ?_
    refine v_getI (pc' := 12) (ji := 59) rfl fg_X12_391 kd_133 dX12_isSign_9 rfl ?_
    refine w_iload_n (pc' := 13) (i := 1) (by rfl) (by rfl) dX12_isSign_12 rfl ?_
    refine w_icmp_ne (pc' := 16) (t := 20) dX12_isSign_13 rfl rfl (fun c_13 => ?_) (fun c_13 => ?_)
    · skip
      refine w_iconst (pc' := 21) (by decide) dX12_isSign_20 rfl ?_
      refine w_zreturn rfl (.inl rfl) dX12_isSign_21 ?_
      first | (exfalso; omega) | exact ⟨congrArg gI (gb_t (by omega)).symm, rfl⟩ | exact ⟨congrArg gI (gb_f (by omega)).symm, rfl⟩
    · skip
      refine w_iconst (pc' := 17) (by decide) dX12_isSign_16 rfl ?_
      refine w_goto (pc' := 21) dX12_isSign_17 rfl ?_
      refine w_zreturn rfl (.inr rfl) dX12_isSign_21 ?_
      first | (exfalso; omega) | exact ⟨congrArg gI (gb_t (by omega)).symm, rfl⟩ | exact ⟨congrArg gI (gb_f (by omega)).symm, rfl⟩
theorem mg_bad {σ : gH} (k : Int) : Mt mX12_bad 0 [gR 133, gI k] σ (fun v σ' => v = gI 0 ∧ ∃ y, σ' = gUp (gUp σ 133 60 y) 133 61 (σ 133 56) ∧ ((σ 133 57 = 1 ∧ y = 1) ∨ (σ 133 57 ≠ 1 ∧ y = k))) := by
  refine Mt.walk (ls := [gR 133, gI k]) pn_X12 rfl (fun _ _ h => by cases h.1) (Nat.le_of_ble_eq_true rfl) rfl ?_
  refine w_aload_n (pc' := 1) (i := 0) (by rfl) (by rfl) dX12_bad_0 rfl ?_
  refine w_aload_n (pc' := 2) (i := 0) (by rfl) (by rfl) dX12_bad_1 rfl ?_
  refine v_getI (pc' := 5) (ji := 57) rfl fg_X12_385 kd_133 dX12_bad_2 rfl ?_
  refine w_iconst (pc' := 6) (by decide) dX12_bad_5 rfl ?_
  refine w_icmp_ne (pc' := 9) (t := 13) dX12_bad_6 rfl rfl (fun c_6 => ?_) (fun c_6 => ?_)
  · skip
    refine w_iload_n (pc' := 14) (i := 1) (by rfl) (by rfl) dX12_bad_13 rfl ?_
    refine v_putI (pc' := 17) (ji := 60) rfl fp_X12_403 kd_133 sf_X12_60 dX12_bad_14 rfl ?_
    refine w_aload_n (pc' := 18) (i := 0) (by rfl) (by rfl) dX12_bad_17 rfl ?_
    refine w_aload_n (pc' := 19) (i := 0) (by rfl) (by rfl) dX12_bad_18 rfl ?_
    refine v_getI (pc' := 22) (ji := 56) rfl fg_X12_382 kd_133 dX12_bad_19 rfl ?_
    show Wp _ _ _ _ _ _ [gI (σ 133 56), gR 133]
    refine v_putI (pc' := 25) (ji := 61) rfl fp_X12_406 kd_133 sf_X12_61 dX12_bad_22 rfl ?_
    refine w_iconst (pc' := 26) (by decide) dX12_bad_25 rfl ?_
    refine w_zreturn rfl (.inl rfl) dX12_bad_26 ?_
    exact ⟨rfl, k, rfl, by first | exact Or.inl ⟨by omega, rfl⟩ | exact Or.inr ⟨by omega, rfl⟩⟩
  · skip
    refine w_iconst (pc' := 10) (by decide) dX12_bad_9 rfl ?_
    refine w_goto (pc' := 14) dX12_bad_10 rfl ?_
    refine v_putI (pc' := 17) (ji := 60) rfl fp_X12_403 kd_133 sf_X12_60 dX12_bad_14 rfl ?_
    refine w_aload_n (pc' := 18) (i := 0) (by rfl) (by rfl) dX12_bad_17 rfl ?_
    refine w_aload_n (pc' := 19) (i := 0) (by rfl) (by rfl) dX12_bad_18 rfl ?_
    refine v_getI (pc' := 22) (ji := 56) rfl fg_X12_382 kd_133 dX12_bad_19 rfl ?_
    show Wp _ _ _ _ _ _ [gI (σ 133 56), gR 133]
    refine v_putI (pc' := 25) (ji := 61) rfl fp_X12_406 kd_133 sf_X12_61 dX12_bad_22 rfl ?_
    refine w_iconst (pc' := 26) (by decide) dX12_bad_25 rfl ?_
    refine w_zreturn rfl (.inl rfl) dX12_bad_26 ?_
    exact ⟨rfl, 1, rfl, by first | exact Or.inl ⟨by omega, rfl⟩ | exact Or.inr ⟨by omega, rfl⟩⟩
theorem mg_speltE {σ : gH} {n : Int} (a b c d e f : Int) (h : ((96 ≤ a ∧ a ≤ 122) ∧ (96 ≤ b ∧ b ≤ 122) ∧ (0 ≤ c ∧ c ≤ 122) ∧ (0 ≤ d ∧ d ≤ 122) ∧ (0 ≤ e ∧ e ≤ 122) ∧ 0 ≤ f ∧ f ≤ 122) ∧ SPL a b c d e f = n) : Mt mX12_spelt 0 [gI a, gI b, gI c, gI d, gI e, gI f] σ (rE (gJ n) σ) := h.2 ▸ mg_spelt a b c d e f h.1.1 h.1.2.1 h.1.2.2.1 h.1.2.2.2.1 h.1.2.2.2.2.1 h.1.2.2.2.2.2
theorem mg_isKeyE {σ : gH} {P : Prop} [Decidable P] (w : Int) (h : (σ 133 57 = 2 ∧ σ 133 63 = w) ↔ P) : Mt mX12_isKey 0 [gR 133, gJ w] σ (rE (gI (gb P)) σ) := by
  rw [← gb_congr h]
  exact mg_isKey w
theorem mg_isSignE {σ : gH} {P : Prop} [Decidable P] (c : Int) (h : (σ 133 57 = 4 ∧ σ 133 59 = c) ↔ P) : Mt mX12_isSign 0 [gR 133, gI c] σ (rE (gI (gb P)) σ) := by
  rw [← gb_congr h]
  exact mg_isSign c
def ATO (b w : Int) : Int := if w = 8 then 5 else if w = 9 then 9 else if w = 10 then 10 else if b = 0 then (if w = 11 then 11 else if w = 12 then 12 else if w = 13 then 13 else -1) else if 0 ≤ w ∧ w ≤ 4 then w else if 5 ≤ w ∧ w ≤ 7 then w + 1 else -1
def NAH (w : Int) : Int := if w = 8 then 0 else if 22 ≤ w ∧ w ≤ 25 then w - 21 else -1
set_option maxHeartbeats 4000000 in
theorem mg_atom {σ : gH} {T : Int → Int} {L p a q k v : Int} (hT : TKS T L p a q k v σ) (b : Int) (hb : b = 0 ∨ b = 1) : Mt mX12_atomAtHand 1 [gR 133, gI b] σ (rE (gI (ATO b (wdO k v))) σ) := by
  refine Mt.walk (ls := [gR 133, gI b]) pn_X12 rfl (fun _ _ h => by cases h.1) (Nat.le_of_ble_eq_true rfl) rfl ?_
  refine w_aload_n (pc' := 1) (i := 0) (by rfl) (by rfl) dX12_atomAtHand_0 rfl ?_
  refine w_bipush (pc' := 3) (by decide) (by decide) dX12_atomAtHand_1 rfl ?_
  refine w_bipush (pc' := 5) (by decide) (by decide) dX12_atomAtHand_3 rfl ?_
  refine w_bipush (pc' := 7) (by decide) (by decide) dX12_atomAtHand_5 rfl ?_
  refine w_iconst (pc' := 8) (by decide) dX12_atomAtHand_7 rfl ?_
  refine w_iconst (pc' := 9) (by decide) dX12_atomAtHand_8 rfl ?_
  refine w_iconst (pc' := 10) (by decide) dX12_atomAtHand_9 rfl ?_
  refine v_callSE (pc' := 13) (st' := [gJ 8276, gR 133]) (d' := 0) (av := [gI 107, gI 105, gI 110, gI 0, gI 0, gI 0]) ms_mX12_spelt st_mX12_spelt lk_X12_412 rfl rfl (Nat.le_of_ble_eq_true rfl) (Nat.le_of_ble_eq_true rfl) dX12_atomAtHand_10 rfl rfl (mg_speltE (σ := σ) (n := 8276) 107 105 110 0 0 0 (by decide)) ?_
  refine v_callVE (pc' := 16) (st' := [gI (gb (wdO k v = 8))]) (d' := 0) (av := [gJ 8276]) mi_mX12_isKey lk_X12_416 rfl ci_X12 kd_133 rfl (Nat.le_of_ble_eq_true rfl) (Nat.le_of_ble_eq_true rfl) dX12_atomAtHand_13 rfl rfl (mg_isKeyE (σ := σ) (P := wdO k v = 8) (8276) (by rw [show (8276 : Int) = 8276 by decide]; exact TKS.key hT kwc_8 (by decide) (by decide) (by decide))) ?_
  refine v_if_eqB (pc' := 19) (t := 21) dX12_atomAtHand_16 rfl rfl (fun c_16 => ?_) (fun c_16 => ?_)
  · skip
    refine w_aload_n (pc' := 22) (i := 0) (by rfl) (by rfl) dX12_atomAtHand_21 rfl ?_
    refine w_bipush (pc' := 24) (by decide) (by decide) dX12_atomAtHand_22 rfl ?_
    refine w_bipush (pc' := 26) (by decide) (by decide) dX12_atomAtHand_24 rfl ?_
    refine w_bipush (pc' := 28) (by decide) (by decide) dX12_atomAtHand_26 rfl ?_
    refine w_iconst (pc' := 29) (by decide) dX12_atomAtHand_28 rfl ?_
    refine w_iconst (pc' := 30) (by decide) dX12_atomAtHand_29 rfl ?_
    refine w_iconst (pc' := 31) (by decide) dX12_atomAtHand_30 rfl ?_
    refine v_callSE (pc' := 34) (st' := [gJ 14431, gR 133]) (d' := 0) (av := [gI 115, gI 117, gI 109, gI 0, gI 0, gI 0]) ms_mX12_spelt st_mX12_spelt lk_X12_412 rfl rfl (Nat.le_of_ble_eq_true rfl) (Nat.le_of_ble_eq_true rfl) dX12_atomAtHand_31 rfl rfl (mg_speltE (σ := σ) (n := 14431) 115 117 109 0 0 0 (by decide)) ?_
    refine v_callVE (pc' := 37) (st' := [gI (gb (wdO k v = 9))]) (d' := 0) (av := [gJ 14431]) mi_mX12_isKey lk_X12_416 rfl ci_X12 kd_133 rfl (Nat.le_of_ble_eq_true rfl) (Nat.le_of_ble_eq_true rfl) dX12_atomAtHand_34 rfl rfl (mg_isKeyE (σ := σ) (P := wdO k v = 9) (14431) (by rw [show (14431 : Int) = 14431 by decide]; exact TKS.key hT kwc_9 (by decide) (by decide) (by decide))) ?_
    refine v_if_eqB (pc' := 40) (t := 43) dX12_atomAtHand_37 rfl rfl (fun c_37 => ?_) (fun c_37 => ?_)
    · skip
      refine w_aload_n (pc' := 44) (i := 0) (by rfl) (by rfl) dX12_atomAtHand_43 rfl ?_
      refine w_bipush (pc' := 46) (by decide) (by decide) dX12_atomAtHand_44 rfl ?_
      refine w_bipush (pc' := 48) (by decide) (by decide) dX12_atomAtHand_46 rfl ?_
      refine w_bipush (pc' := 50) (by decide) (by decide) dX12_atomAtHand_48 rfl ?_
      refine w_bipush (pc' := 52) (by decide) (by decide) dX12_atomAtHand_50 rfl ?_
      refine w_bipush (pc' := 54) (by decide) (by decide) dX12_atomAtHand_52 rfl ?_
      refine w_iconst (pc' := 55) (by decide) dX12_atomAtHand_54 rfl ?_
      refine v_callSE (pc' := 58) (st' := [gJ 1905275, gR 133]) (d' := 0) (av := [gI 99, gI 111, gI 117, gI 110, gI 116, gI 0]) ms_mX12_spelt st_mX12_spelt lk_X12_412 rfl rfl (Nat.le_of_ble_eq_true rfl) (Nat.le_of_ble_eq_true rfl) dX12_atomAtHand_55 rfl rfl (mg_speltE (σ := σ) (n := 1905275) 99 111 117 110 116 0 (by decide)) ?_
      refine v_callVE (pc' := 61) (st' := [gI (gb (wdO k v = 10))]) (d' := 0) (av := [gJ 1905275]) mi_mX12_isKey lk_X12_416 rfl ci_X12 kd_133 rfl (Nat.le_of_ble_eq_true rfl) (Nat.le_of_ble_eq_true rfl) dX12_atomAtHand_58 rfl rfl (mg_isKeyE (σ := σ) (P := wdO k v = 10) (1905275) (by rw [show (1905275 : Int) = 1905275 by decide]; exact TKS.key hT kwc_10 (by decide) (by decide) (by decide))) ?_
      refine v_if_eqB (pc' := 64) (t := 67) dX12_atomAtHand_61 rfl rfl (fun c_61 => ?_) (fun c_61 => ?_)
      · skip
        refine w_iload_n (pc' := 68) (i := 1) (by rfl) (by rfl) dX12_atomAtHand_67 rfl ?_
        refine w_if_ne (pc' := 71) (t := 158) dX12_atomAtHand_68 rfl rfl (fun c_68 => ?_) (fun c_68 => ?_)
        · skip
          refine w_aload_n (pc' := 159) (i := 0) (by rfl) (by rfl) dX12_atomAtHand_158 rfl ?_
          refine w_bipush (pc' := 161) (by decide) (by decide) dX12_atomAtHand_159 rfl ?_
          refine w_bipush (pc' := 163) (by decide) (by decide) dX12_atomAtHand_161 rfl ?_
          refine w_bipush (pc' := 165) (by decide) (by decide) dX12_atomAtHand_163 rfl ?_
          refine w_bipush (pc' := 167) (by decide) (by decide) dX12_atomAtHand_165 rfl ?_
          refine w_iconst (pc' := 168) (by decide) dX12_atomAtHand_167 rfl ?_
          refine w_iconst (pc' := 169) (by decide) dX12_atomAtHand_168 rfl ?_
          refine v_callSE (pc' := 172) (st' := [gJ 144524, gR 133]) (d' := 0) (av := [gI 103, gI 105, gI 102, gI 116, gI 0, gI 0]) ms_mX12_spelt st_mX12_spelt lk_X12_412 rfl rfl (Nat.le_of_ble_eq_true rfl) (Nat.le_of_ble_eq_true rfl) dX12_atomAtHand_169 rfl rfl (mg_speltE (σ := σ) (n := 144524) 103 105 102 116 0 0 (by decide)) ?_
          refine v_callVE (pc' := 175) (st' := [gI (gb (wdO k v = 0))]) (d' := 0) (av := [gJ 144524]) mi_mX12_isKey lk_X12_416 rfl ci_X12 kd_133 rfl (Nat.le_of_ble_eq_true rfl) (Nat.le_of_ble_eq_true rfl) dX12_atomAtHand_172 rfl rfl (mg_isKeyE (σ := σ) (P := wdO k v = 0) (144524) (by rw [show (144524 : Int) = 144524 by decide]; exact TKS.key hT kwc_0 (by decide) (by decide) (by decide))) ?_
          refine v_if_eqB (pc' := 178) (t := 180) dX12_atomAtHand_175 rfl rfl (fun c_175 => ?_) (fun c_175 => ?_)
          · skip
            refine w_aload_n (pc' := 181) (i := 0) (by rfl) (by rfl) dX12_atomAtHand_180 rfl ?_
            refine w_bipush (pc' := 183) (by decide) (by decide) dX12_atomAtHand_181 rfl ?_
            refine w_bipush (pc' := 185) (by decide) (by decide) dX12_atomAtHand_183 rfl ?_
            refine w_bipush (pc' := 187) (by decide) (by decide) dX12_atomAtHand_185 rfl ?_
            refine w_bipush (pc' := 189) (by decide) (by decide) dX12_atomAtHand_187 rfl ?_
            refine w_iconst (pc' := 190) (by decide) dX12_atomAtHand_189 rfl ?_
            refine w_iconst (pc' := 191) (by decide) dX12_atomAtHand_190 rfl ?_
            refine v_callSE (pc' := 194) (st' := [gJ 259563, gR 133]) (d' := 0) (av := [gI 109, gI 101, gI 97, gI 108, gI 0, gI 0]) ms_mX12_spelt st_mX12_spelt lk_X12_412 rfl rfl (Nat.le_of_ble_eq_true rfl) (Nat.le_of_ble_eq_true rfl) dX12_atomAtHand_191 rfl rfl (mg_speltE (σ := σ) (n := 259563) 109 101 97 108 0 0 (by decide)) ?_
            refine v_callVE (pc' := 197) (st' := [gI (gb (wdO k v = 1))]) (d' := 0) (av := [gJ 259563]) mi_mX12_isKey lk_X12_416 rfl ci_X12 kd_133 rfl (Nat.le_of_ble_eq_true rfl) (Nat.le_of_ble_eq_true rfl) dX12_atomAtHand_194 rfl rfl (mg_isKeyE (σ := σ) (P := wdO k v = 1) (259563) (by rw [show (259563 : Int) = 259563 by decide]; exact TKS.key hT kwc_1 (by decide) (by decide) (by decide))) ?_
            refine v_if_eqB (pc' := 200) (t := 202) dX12_atomAtHand_197 rfl rfl (fun c_197 => ?_) (fun c_197 => ?_)
            · skip
              refine w_aload_n (pc' := 203) (i := 0) (by rfl) (by rfl) dX12_atomAtHand_202 rfl ?_
              refine w_ldc2 (pc' := 206) (by decide) ct_X12_265 dX12_atomAtHand_203 rfl ?_
              refine w_bipush (pc' := 208) (by decide) (by decide) dX12_atomAtHand_206 rfl ?_
              refine w_bipush (pc' := 210) (by decide) (by decide) dX12_atomAtHand_208 rfl ?_
              refine w_bipush (pc' := 212) (by decide) (by decide) dX12_atomAtHand_210 rfl ?_
              refine w_bipush (pc' := 214) (by decide) (by decide) dX12_atomAtHand_212 rfl ?_
              refine w_bipush (pc' := 216) (by decide) (by decide) dX12_atomAtHand_214 rfl ?_
              refine w_bipush (pc' := 218) (by decide) (by decide) dX12_atomAtHand_216 rfl ?_
              refine v_callSE (pc' := 221) (st' := [gJ 151887533, gJ 27, gR 133]) (d' := 0) (av := [gI 106, gI 111, gI 117, gI 114, gI 110, gI 101]) ms_mX12_spelt st_mX12_spelt lk_X12_412 rfl rfl (Nat.le_of_ble_eq_true rfl) (Nat.le_of_ble_eq_true rfl) dX12_atomAtHand_218 rfl rfl (mg_speltE (σ := σ) (n := 151887533) 106 111 117 114 110 101 (by decide)) ?_
              refine v_lmul (pc' := 222) (by omega) dX12_atomAtHand_221 rfl ?_
              refine w_ldc2 (pc' := 225) (by decide) ct_X12_422 dX12_atomAtHand_222 rfl ?_
              refine v_ladd (pc' := 226) (by omega) dX12_atomAtHand_225 rfl ?_
              refine v_callVE (pc' := 229) (st' := [gI (gb (wdO k v = 2))]) (d' := 0) (av := [gJ ((27 * 151887533) + 25)]) mi_mX12_isKey lk_X12_416 rfl ci_X12 kd_133 rfl (Nat.le_of_ble_eq_true rfl) (Nat.le_of_ble_eq_true rfl) dX12_atomAtHand_226 rfl rfl (mg_isKeyE (σ := σ) (P := wdO k v = 2) ((27 * 151887533) + 25) (by rw [show ((27 * 151887533) + 25 : Int) = 4100963416 by decide]; exact TKS.key hT kwc_2 (by decide) (by decide) (by decide))) ?_
              refine v_if_eqB (pc' := 232) (t := 234) dX12_atomAtHand_229 rfl rfl (fun c_229 => ?_) (fun c_229 => ?_)
              · skip
                refine w_aload_n (pc' := 235) (i := 0) (by rfl) (by rfl) dX12_atomAtHand_234 rfl ?_
                refine w_bipush (pc' := 237) (by decide) (by decide) dX12_atomAtHand_235 rfl ?_
                refine w_bipush (pc' := 239) (by decide) (by decide) dX12_atomAtHand_237 rfl ?_
                refine w_bipush (pc' := 241) (by decide) (by decide) dX12_atomAtHand_239 rfl ?_
                refine w_bipush (pc' := 243) (by decide) (by decide) dX12_atomAtHand_241 rfl ?_
                refine w_bipush (pc' := 245) (by decide) (by decide) dX12_atomAtHand_243 rfl ?_
                refine w_iconst (pc' := 246) (by decide) dX12_atomAtHand_245 rfl ?_
                refine v_callSE (pc' := 249) (st' := [gJ 10256063, gR 133]) (d' := 0) (av := [gI 115, gI 104, gI 97, gI 114, gI 101, gI 0]) ms_mX12_spelt st_mX12_spelt lk_X12_412 rfl rfl (Nat.le_of_ble_eq_true rfl) (Nat.le_of_ble_eq_true rfl) dX12_atomAtHand_246 rfl rfl (mg_speltE (σ := σ) (n := 10256063) 115 104 97 114 101 0 (by decide)) ?_
                refine v_callVE (pc' := 252) (st' := [gI (gb (wdO k v = 3))]) (d' := 0) (av := [gJ 10256063]) mi_mX12_isKey lk_X12_416 rfl ci_X12 kd_133 rfl (Nat.le_of_ble_eq_true rfl) (Nat.le_of_ble_eq_true rfl) dX12_atomAtHand_249 rfl rfl (mg_isKeyE (σ := σ) (P := wdO k v = 3) (10256063) (by rw [show (10256063 : Int) = 10256063 by decide]; exact TKS.key hT kwc_3 (by decide) (by decide) (by decide))) ?_
                refine v_if_eqB (pc' := 255) (t := 257) dX12_atomAtHand_252 rfl rfl (fun c_252 => ?_) (fun c_252 => ?_)
                · skip
                  refine w_aload_n (pc' := 258) (i := 0) (by rfl) (by rfl) dX12_atomAtHand_257 rfl ?_
                  refine w_ldc2 (pc' := 261) (by decide) ct_X12_265 dX12_atomAtHand_258 rfl ?_
                  refine w_bipush (pc' := 263) (by decide) (by decide) dX12_atomAtHand_261 rfl ?_
                  refine w_bipush (pc' := 265) (by decide) (by decide) dX12_atomAtHand_263 rfl ?_
                  refine w_bipush (pc' := 267) (by decide) (by decide) dX12_atomAtHand_265 rfl ?_
                  refine w_bipush (pc' := 269) (by decide) (by decide) dX12_atomAtHand_267 rfl ?_
                  refine w_bipush (pc' := 271) (by decide) (by decide) dX12_atomAtHand_269 rfl ?_
                  refine w_bipush (pc' := 273) (by decide) (by decide) dX12_atomAtHand_271 rfl ?_
                  refine v_callSE (pc' := 276) (st' := [gJ 94423246, gJ 27, gR 133]) (d' := 0) (av := [gI 102, gI 111, gI 114, gI 101, gI 105, gI 103]) ms_mX12_spelt st_mX12_spelt lk_X12_412 rfl rfl (Nat.le_of_ble_eq_true rfl) (Nat.le_of_ble_eq_true rfl) dX12_atomAtHand_273 rfl rfl (mg_speltE (σ := σ) (n := 94423246) 102 111 114 101 105 103 (by decide)) ?_
                  refine v_lmul (pc' := 277) (by omega) dX12_atomAtHand_276 rfl ?_
                  refine w_ldc2 (pc' := 280) (by decide) ct_X12_424 dX12_atomAtHand_277 rfl ?_
                  refine v_ladd (pc' := 281) (by omega) dX12_atomAtHand_280 rfl ?_
                  refine v_callVE (pc' := 284) (st' := [gI (gb (wdO k v = 4))]) (d' := 0) (av := [gJ ((27 * 94423246) + 14)]) mi_mX12_isKey lk_X12_416 rfl ci_X12 kd_133 rfl (Nat.le_of_ble_eq_true rfl) (Nat.le_of_ble_eq_true rfl) dX12_atomAtHand_281 rfl rfl (mg_isKeyE (σ := σ) (P := wdO k v = 4) ((27 * 94423246) + 14) (by rw [show ((27 * 94423246) + 14 : Int) = 2549427656 by decide]; exact TKS.key hT kwc_4 (by decide) (by decide) (by decide))) ?_
                  refine v_if_eqB (pc' := 287) (t := 289) dX12_atomAtHand_284 rfl rfl (fun c_284 => ?_) (fun c_284 => ?_)
                  · skip
                    refine w_aload_n (pc' := 290) (i := 0) (by rfl) (by rfl) dX12_atomAtHand_289 rfl ?_
                    refine w_bipush (pc' := 292) (by decide) (by decide) dX12_atomAtHand_290 rfl ?_
                    refine w_bipush (pc' := 294) (by decide) (by decide) dX12_atomAtHand_292 rfl ?_
                    refine w_bipush (pc' := 296) (by decide) (by decide) dX12_atomAtHand_294 rfl ?_
                    refine w_bipush (pc' := 298) (by decide) (by decide) dX12_atomAtHand_296 rfl ?_
                    refine w_iconst (pc' := 299) (by decide) dX12_atomAtHand_298 rfl ?_
                    refine w_iconst (pc' := 300) (by decide) dX12_atomAtHand_299 rfl ?_
                    refine v_callSE (pc' := 303) (st' := [gJ 40187, gR 133]) (d' := 0) (av := [gI 98, gI 97, gI 99, gI 107, gI 0, gI 0]) ms_mX12_spelt st_mX12_spelt lk_X12_412 rfl rfl (Nat.le_of_ble_eq_true rfl) (Nat.le_of_ble_eq_true rfl) dX12_atomAtHand_300 rfl rfl (mg_speltE (σ := σ) (n := 40187) 98 97 99 107 0 0 (by decide)) ?_
                    refine v_callVE (pc' := 306) (st' := [gI (gb (wdO k v = 5))]) (d' := 0) (av := [gJ 40187]) mi_mX12_isKey lk_X12_416 rfl ci_X12 kd_133 rfl (Nat.le_of_ble_eq_true rfl) (Nat.le_of_ble_eq_true rfl) dX12_atomAtHand_303 rfl rfl (mg_isKeyE (σ := σ) (P := wdO k v = 5) (40187) (by rw [show (40187 : Int) = 40187 by decide]; exact TKS.key hT kwc_5 (by decide) (by decide) (by decide))) ?_
                    refine v_if_eqB (pc' := 309) (t := 312) dX12_atomAtHand_306 rfl rfl (fun c_306 => ?_) (fun c_306 => ?_)
                    · skip
                      refine w_aload_n (pc' := 313) (i := 0) (by rfl) (by rfl) dX12_atomAtHand_312 rfl ?_
                      refine w_bipush (pc' := 315) (by decide) (by decide) dX12_atomAtHand_313 rfl ?_
                      refine w_bipush (pc' := 317) (by decide) (by decide) dX12_atomAtHand_315 rfl ?_
                      refine w_bipush (pc' := 319) (by decide) (by decide) dX12_atomAtHand_317 rfl ?_
                      refine w_bipush (pc' := 321) (by decide) (by decide) dX12_atomAtHand_319 rfl ?_
                      refine w_bipush (pc' := 323) (by decide) (by decide) dX12_atomAtHand_321 rfl ?_
                      refine w_iconst (pc' := 324) (by decide) dX12_atomAtHand_323 rfl ?_
                      refine v_callSE (pc' := 327) (st' := [gJ 6476969, gR 133]) (d' := 0) (av := [gI 108, gI 101, gI 97, gI 115, gI 116, gI 0]) ms_mX12_spelt st_mX12_spelt lk_X12_412 rfl rfl (Nat.le_of_ble_eq_true rfl) (Nat.le_of_ble_eq_true rfl) dX12_atomAtHand_324 rfl rfl (mg_speltE (σ := σ) (n := 6476969) 108 101 97 115 116 0 (by decide)) ?_
                      refine v_callVE (pc' := 330) (st' := [gI (gb (wdO k v = 6))]) (d' := 0) (av := [gJ 6476969]) mi_mX12_isKey lk_X12_416 rfl ci_X12 kd_133 rfl (Nat.le_of_ble_eq_true rfl) (Nat.le_of_ble_eq_true rfl) dX12_atomAtHand_327 rfl rfl (mg_isKeyE (σ := σ) (P := wdO k v = 6) (6476969) (by rw [show (6476969 : Int) = 6476969 by decide]; exact TKS.key hT kwc_6 (by decide) (by decide) (by decide))) ?_
                      refine v_if_eqB (pc' := 333) (t := 336) dX12_atomAtHand_330 rfl rfl (fun c_330 => ?_) (fun c_330 => ?_)
                      · skip
                        refine w_aload_n (pc' := 337) (i := 0) (by rfl) (by rfl) dX12_atomAtHand_336 rfl ?_
                        refine w_bipush (pc' := 339) (by decide) (by decide) dX12_atomAtHand_337 rfl ?_
                        refine w_bipush (pc' := 341) (by decide) (by decide) dX12_atomAtHand_339 rfl ?_
                        refine w_bipush (pc' := 343) (by decide) (by decide) dX12_atomAtHand_341 rfl ?_
                        refine w_bipush (pc' := 345) (by decide) (by decide) dX12_atomAtHand_343 rfl ?_
                        refine w_iconst (pc' := 346) (by decide) dX12_atomAtHand_345 rfl ?_
                        refine w_iconst (pc' := 347) (by decide) dX12_atomAtHand_346 rfl ?_
                        refine v_callSE (pc' := 350) (st' := [gJ 267347, gR 133]) (d' := 0) (av := [gI 109, gI 111, gI 115, gI 116, gI 0, gI 0]) ms_mX12_spelt st_mX12_spelt lk_X12_412 rfl rfl (Nat.le_of_ble_eq_true rfl) (Nat.le_of_ble_eq_true rfl) dX12_atomAtHand_347 rfl rfl (mg_speltE (σ := σ) (n := 267347) 109 111 115 116 0 0 (by decide)) ?_
                        refine v_callVE (pc' := 353) (st' := [gI (gb (wdO k v = 7))]) (d' := 0) (av := [gJ 267347]) mi_mX12_isKey lk_X12_416 rfl ci_X12 kd_133 rfl (Nat.le_of_ble_eq_true rfl) (Nat.le_of_ble_eq_true rfl) dX12_atomAtHand_350 rfl rfl (mg_isKeyE (σ := σ) (P := wdO k v = 7) (267347) (by rw [show (267347 : Int) = 267347 by decide]; exact TKS.key hT kwc_7 (by decide) (by decide) (by decide))) ?_
                        refine v_if_eqB (pc' := 356) (t := 361) dX12_atomAtHand_353 rfl rfl (fun c_353 => ?_) (fun c_353 => ?_)
                        · skip
                          refine w_iconst (pc' := 362) (by decide) dX12_atomAtHand_361 rfl ?_
                          refine v_ireturn rfl dX12_atomAtHand_362 ?_
                          first | (exfalso; omega) | exact ⟨congrArg gI (by unfold ATO; (repeat' split) <;> omega), rfl⟩
                        · skip
                          refine w_bipush (pc' := 358) (by decide) (by decide) dX12_atomAtHand_356 rfl ?_
                          refine w_goto (pc' := 362) dX12_atomAtHand_358 rfl ?_
                          refine v_ireturn rfl dX12_atomAtHand_362 ?_
                          first | (exfalso; omega) | exact ⟨congrArg gI (by unfold ATO; (repeat' split) <;> omega), rfl⟩
                      · skip
                        refine w_bipush (pc' := 335) (by decide) (by decide) dX12_atomAtHand_333 rfl ?_
                        refine v_ireturn rfl dX12_atomAtHand_335 ?_
                        first | (exfalso; omega) | exact ⟨congrArg gI (by unfold ATO; (repeat' split) <;> omega), rfl⟩
                    · skip
                      refine w_bipush (pc' := 311) (by decide) (by decide) dX12_atomAtHand_309 rfl ?_
                      refine v_ireturn rfl dX12_atomAtHand_311 ?_
                      first | (exfalso; omega) | exact ⟨congrArg gI (by unfold ATO; (repeat' split) <;> omega), rfl⟩
                  · skip
                    refine w_iconst (pc' := 288) (by decide) dX12_atomAtHand_287 rfl ?_
                    refine v_ireturn rfl dX12_atomAtHand_288 ?_
                    first | (exfalso; omega) | exact ⟨congrArg gI (by unfold ATO; (repeat' split) <;> omega), rfl⟩
                · skip
                  refine w_iconst (pc' := 256) (by decide) dX12_atomAtHand_255 rfl ?_
                  refine v_ireturn rfl dX12_atomAtHand_256 ?_
                  first | (exfalso; omega) | exact ⟨congrArg gI (by unfold ATO; (repeat' split) <;> omega), rfl⟩
              · skip
                refine w_iconst (pc' := 233) (by decide) dX12_atomAtHand_232 rfl ?_
                refine v_ireturn rfl dX12_atomAtHand_233 ?_
                first | (exfalso; omega) | exact ⟨congrArg gI (by unfold ATO; (repeat' split) <;> omega), rfl⟩
            · skip
              refine w_iconst (pc' := 201) (by decide) dX12_atomAtHand_200 rfl ?_
              refine v_ireturn rfl dX12_atomAtHand_201 ?_
              first | (exfalso; omega) | exact ⟨congrArg gI (by unfold ATO; (repeat' split) <;> omega), rfl⟩
          · skip
            refine w_iconst (pc' := 179) (by decide) dX12_atomAtHand_178 rfl ?_
            refine v_ireturn rfl dX12_atomAtHand_179 ?_
            first | (exfalso; omega) | exact ⟨congrArg gI (by unfold ATO; (repeat' split) <;> omega), rfl⟩
        · skip
          refine w_aload_n (pc' := 72) (i := 0) (by rfl) (by rfl) dX12_atomAtHand_71 rfl ?_
          refine w_bipush (pc' := 74) (by decide) (by decide) dX12_atomAtHand_72 rfl ?_
          refine w_bipush (pc' := 76) (by decide) (by decide) dX12_atomAtHand_74 rfl ?_
          refine w_bipush (pc' := 78) (by decide) (by decide) dX12_atomAtHand_76 rfl ?_
          refine w_bipush (pc' := 80) (by decide) (by decide) dX12_atomAtHand_78 rfl ?_
          refine w_iconst (pc' := 81) (by decide) dX12_atomAtHand_80 rfl ?_
          refine w_iconst (pc' := 82) (by decide) dX12_atomAtHand_81 rfl ?_
          refine v_callSE (pc' := 85) (st' := [gJ 326396, gR 133]) (d' := 0) (av := [gI 112, gI 111, gI 115, gI 116, gI 0, gI 0]) ms_mX12_spelt st_mX12_spelt lk_X12_412 rfl rfl (Nat.le_of_ble_eq_true rfl) (Nat.le_of_ble_eq_true rfl) dX12_atomAtHand_82 rfl rfl (mg_speltE (σ := σ) (n := 326396) 112 111 115 116 0 0 (by decide)) ?_
          refine v_callVE (pc' := 88) (st' := [gI (gb (wdO k v = 11))]) (d' := 0) (av := [gJ 326396]) mi_mX12_isKey lk_X12_416 rfl ci_X12 kd_133 rfl (Nat.le_of_ble_eq_true rfl) (Nat.le_of_ble_eq_true rfl) dX12_atomAtHand_85 rfl rfl (mg_isKeyE (σ := σ) (P := wdO k v = 11) (326396) (by rw [show (326396 : Int) = 326396 by decide]; exact TKS.key hT kwc_11 (by decide) (by decide) (by decide))) ?_
          refine v_if_eqB (pc' := 91) (t := 96) dX12_atomAtHand_88 rfl rfl (fun c_88 => ?_) (fun c_88 => ?_)
          · skip
            refine w_aload_n (pc' := 97) (i := 0) (by rfl) (by rfl) dX12_atomAtHand_96 rfl ?_
            refine w_bipush (pc' := 99) (by decide) (by decide) dX12_atomAtHand_97 rfl ?_
            refine w_bipush (pc' := 101) (by decide) (by decide) dX12_atomAtHand_99 rfl ?_
            refine w_bipush (pc' := 103) (by decide) (by decide) dX12_atomAtHand_101 rfl ?_
            refine w_bipush (pc' := 105) (by decide) (by decide) dX12_atomAtHand_103 rfl ?_
            refine w_iconst (pc' := 106) (by decide) dX12_atomAtHand_105 rfl ?_
            refine w_iconst (pc' := 107) (by decide) dX12_atomAtHand_106 rfl ?_
            refine v_callSE (pc' := 110) (st' := [gJ 316163, gR 133]) (d' := 0) (av := [gI 112, gI 97, gI 114, gI 116, gI 0, gI 0]) ms_mX12_spelt st_mX12_spelt lk_X12_412 rfl rfl (Nat.le_of_ble_eq_true rfl) (Nat.le_of_ble_eq_true rfl) dX12_atomAtHand_107 rfl rfl (mg_speltE (σ := σ) (n := 316163) 112 97 114 116 0 0 (by decide)) ?_
            refine v_callVE (pc' := 113) (st' := [gI (gb (wdO k v = 12))]) (d' := 0) (av := [gJ 316163]) mi_mX12_isKey lk_X12_416 rfl ci_X12 kd_133 rfl (Nat.le_of_ble_eq_true rfl) (Nat.le_of_ble_eq_true rfl) dX12_atomAtHand_110 rfl rfl (mg_isKeyE (σ := σ) (P := wdO k v = 12) (316163) (by rw [show (316163 : Int) = 316163 by decide]; exact TKS.key hT kwc_12 (by decide) (by decide) (by decide))) ?_
            refine v_if_eqB (pc' := 116) (t := 121) dX12_atomAtHand_113 rfl rfl (fun c_113 => ?_) (fun c_113 => ?_)
            · skip
              refine w_aload_n (pc' := 122) (i := 0) (by rfl) (by rfl) dX12_atomAtHand_121 rfl ?_
              refine w_ldc2 (pc' := 125) (by decide) ct_X12_265 dX12_atomAtHand_122 rfl ?_
              refine w_bipush (pc' := 127) (by decide) (by decide) dX12_atomAtHand_125 rfl ?_
              refine w_bipush (pc' := 129) (by decide) (by decide) dX12_atomAtHand_127 rfl ?_
              refine w_bipush (pc' := 131) (by decide) (by decide) dX12_atomAtHand_129 rfl ?_
              refine w_bipush (pc' := 133) (by decide) (by decide) dX12_atomAtHand_131 rfl ?_
              refine w_bipush (pc' := 135) (by decide) (by decide) dX12_atomAtHand_133 rfl ?_
              refine w_bipush (pc' := 137) (by decide) (by decide) dX12_atomAtHand_135 rfl ?_
              refine v_callSE (pc' := 140) (st' := [gJ 162908217, gJ 27, gR 133]) (d' := 0) (av := [gI 107, gI 105, gI 110, gI 112, gI 97, gI 114]) ms_mX12_spelt st_mX12_spelt lk_X12_412 rfl rfl (Nat.le_of_ble_eq_true rfl) (Nat.le_of_ble_eq_true rfl) dX12_atomAtHand_137 rfl rfl (mg_speltE (σ := σ) (n := 162908217) 107 105 110 112 97 114 (by decide)) ?_
              refine v_lmul (pc' := 141) (by omega) dX12_atomAtHand_140 rfl ?_
              refine w_ldc2 (pc' := 144) (by decide) ct_X12_420 dX12_atomAtHand_141 rfl ?_
              refine v_ladd (pc' := 145) (by omega) dX12_atomAtHand_144 rfl ?_
              refine v_callVE (pc' := 148) (st' := [gI (gb (wdO k v = 13))]) (d' := 0) (av := [gJ ((27 * 162908217) + 20)]) mi_mX12_isKey lk_X12_416 rfl ci_X12 kd_133 rfl (Nat.le_of_ble_eq_true rfl) (Nat.le_of_ble_eq_true rfl) dX12_atomAtHand_145 rfl rfl (mg_isKeyE (σ := σ) (P := wdO k v = 13) ((27 * 162908217) + 20) (by rw [show ((27 * 162908217) + 20 : Int) = 4398521879 by decide]; exact TKS.key hT kwc_13 (by decide) (by decide) (by decide))) ?_
              refine v_if_eqB (pc' := 151) (t := 156) dX12_atomAtHand_148 rfl rfl (fun c_148 => ?_) (fun c_148 => ?_)
              · skip
                refine w_iconst (pc' := 157) (by decide) dX12_atomAtHand_156 rfl ?_
                refine v_ireturn rfl dX12_atomAtHand_157 ?_
                first | (exfalso; omega) | exact ⟨congrArg gI (by unfold ATO; (repeat' split) <;> omega), rfl⟩
              · skip
                refine w_bipush (pc' := 153) (by decide) (by decide) dX12_atomAtHand_151 rfl ?_
                refine w_goto (pc' := 157) dX12_atomAtHand_153 rfl ?_
                refine v_ireturn rfl dX12_atomAtHand_157 ?_
                first | (exfalso; omega) | exact ⟨congrArg gI (by unfold ATO; (repeat' split) <;> omega), rfl⟩
            · skip
              refine w_bipush (pc' := 118) (by decide) (by decide) dX12_atomAtHand_116 rfl ?_
              refine w_goto (pc' := 157) dX12_atomAtHand_118 rfl ?_
              refine v_ireturn rfl dX12_atomAtHand_157 ?_
              first | (exfalso; omega) | exact ⟨congrArg gI (by unfold ATO; (repeat' split) <;> omega), rfl⟩
          · skip
            refine w_bipush (pc' := 93) (by decide) (by decide) dX12_atomAtHand_91 rfl ?_
            refine w_goto (pc' := 157) dX12_atomAtHand_93 rfl ?_
            refine v_ireturn rfl dX12_atomAtHand_157 ?_
            first | (exfalso; omega) | exact ⟨congrArg gI (by unfold ATO; (repeat' split) <;> omega), rfl⟩
      · skip
        refine w_bipush (pc' := 66) (by decide) (by decide) dX12_atomAtHand_64 rfl ?_
        refine v_ireturn rfl dX12_atomAtHand_66 ?_
        first | (exfalso; omega) | exact ⟨congrArg gI (by unfold ATO; (repeat' split) <;> omega), rfl⟩
    · skip
      refine w_bipush (pc' := 42) (by decide) (by decide) dX12_atomAtHand_40 rfl ?_
      refine v_ireturn rfl dX12_atomAtHand_42 ?_
      first | (exfalso; omega) | exact ⟨congrArg gI (by unfold ATO; (repeat' split) <;> omega), rfl⟩
  · skip
    refine w_iconst (pc' := 20) (by decide) dX12_atomAtHand_19 rfl ?_
    refine v_ireturn rfl dX12_atomAtHand_20 ?_
    first | (exfalso; omega) | exact ⟨congrArg gI (by unfold ATO; (repeat' split) <;> omega), rfl⟩
set_option maxHeartbeats 4000000 in
theorem mg_number {σ : gH} {T : Int → Int} {L p a q k v : Int} (hT : TKS T L p a q k v σ) : Mt mX12_numberAtHand 1 [gR 133] σ (rE (gI (NAH (wdO k v))) σ) := by
  refine Mt.walk (ls := [gR 133]) pn_X12 rfl (fun _ _ h => by cases h.1) (Nat.le_of_ble_eq_true rfl) rfl ?_
  refine w_aload_n (pc' := 1) (i := 0) (by rfl) (by rfl) dX12_numberAtHand_0 rfl ?_
  refine w_bipush (pc' := 3) (by decide) (by decide) dX12_numberAtHand_1 rfl ?_
  refine w_bipush (pc' := 5) (by decide) (by decide) dX12_numberAtHand_3 rfl ?_
  refine w_bipush (pc' := 7) (by decide) (by decide) dX12_numberAtHand_5 rfl ?_
  refine w_iconst (pc' := 8) (by decide) dX12_numberAtHand_7 rfl ?_
  refine w_iconst (pc' := 9) (by decide) dX12_numberAtHand_8 rfl ?_
  refine w_iconst (pc' := 10) (by decide) dX12_numberAtHand_9 rfl ?_
  refine v_callSE (pc' := 13) (st' := [gJ 8276, gR 133]) (d' := 0) (av := [gI 107, gI 105, gI 110, gI 0, gI 0, gI 0]) ms_mX12_spelt st_mX12_spelt lk_X12_412 rfl rfl (Nat.le_of_ble_eq_true rfl) (Nat.le_of_ble_eq_true rfl) dX12_numberAtHand_10 rfl rfl (mg_speltE (σ := σ) (n := 8276) 107 105 110 0 0 0 (by decide)) ?_
  refine v_callVE (pc' := 16) (st' := [gI (gb (wdO k v = 8))]) (d' := 0) (av := [gJ 8276]) mi_mX12_isKey lk_X12_416 rfl ci_X12 kd_133 rfl (Nat.le_of_ble_eq_true rfl) (Nat.le_of_ble_eq_true rfl) dX12_numberAtHand_13 rfl rfl (mg_isKeyE (σ := σ) (P := wdO k v = 8) (8276) (by rw [show (8276 : Int) = 8276 by decide]; exact TKS.key hT kwc_8 (by decide) (by decide) (by decide))) ?_
  refine v_if_eqB (pc' := 19) (t := 21) dX12_numberAtHand_16 rfl rfl (fun c_16 => ?_) (fun c_16 => ?_)
  · skip
    refine w_aload_n (pc' := 22) (i := 0) (by rfl) (by rfl) dX12_numberAtHand_21 rfl ?_
    refine w_bipush (pc' := 24) (by decide) (by decide) dX12_numberAtHand_22 rfl ?_
    refine w_bipush (pc' := 26) (by decide) (by decide) dX12_numberAtHand_24 rfl ?_
    refine w_bipush (pc' := 28) (by decide) (by decide) dX12_numberAtHand_26 rfl ?_
    refine w_bipush (pc' := 30) (by decide) (by decide) dX12_numberAtHand_28 rfl ?_
    refine w_iconst (pc' := 31) (by decide) dX12_numberAtHand_30 rfl ?_
    refine w_iconst (pc' := 32) (by decide) dX12_numberAtHand_31 rfl ?_
    refine v_callSE (pc' := 35) (st' := [gJ 495765, gR 133]) (d' := 0) (av := [gI 121, gI 101, gI 97, gI 114, gI 0, gI 0]) ms_mX12_spelt st_mX12_spelt lk_X12_412 rfl rfl (Nat.le_of_ble_eq_true rfl) (Nat.le_of_ble_eq_true rfl) dX12_numberAtHand_32 rfl rfl (mg_speltE (σ := σ) (n := 495765) 121 101 97 114 0 0 (by decide)) ?_
    refine v_callVE (pc' := 38) (st' := [gI (gb (wdO k v = 22))]) (d' := 0) (av := [gJ 495765]) mi_mX12_isKey lk_X12_416 rfl ci_X12 kd_133 rfl (Nat.le_of_ble_eq_true rfl) (Nat.le_of_ble_eq_true rfl) dX12_numberAtHand_35 rfl rfl (mg_isKeyE (σ := σ) (P := wdO k v = 22) (495765) (by rw [show (495765 : Int) = 495765 by decide]; exact TKS.key hT kwc_22 (by decide) (by decide) (by decide))) ?_
    refine v_if_eqB (pc' := 41) (t := 43) dX12_numberAtHand_38 rfl rfl (fun c_38 => ?_) (fun c_38 => ?_)
    · skip
      refine w_aload_n (pc' := 44) (i := 0) (by rfl) (by rfl) dX12_numberAtHand_43 rfl ?_
      refine w_bipush (pc' := 46) (by decide) (by decide) dX12_numberAtHand_44 rfl ?_
      refine w_bipush (pc' := 48) (by decide) (by decide) dX12_numberAtHand_46 rfl ?_
      refine w_bipush (pc' := 50) (by decide) (by decide) dX12_numberAtHand_48 rfl ?_
      refine w_iconst (pc' := 51) (by decide) dX12_numberAtHand_50 rfl ?_
      refine w_iconst (pc' := 52) (by decide) dX12_numberAtHand_51 rfl ?_
      refine w_iconst (pc' := 53) (by decide) dX12_numberAtHand_52 rfl ?_
      refine v_callSE (pc' := 56) (st' := [gJ 11263, gR 133]) (d' := 0) (av := [gI 111, gI 108, gI 100, gI 0, gI 0, gI 0]) ms_mX12_spelt st_mX12_spelt lk_X12_412 rfl rfl (Nat.le_of_ble_eq_true rfl) (Nat.le_of_ble_eq_true rfl) dX12_numberAtHand_53 rfl rfl (mg_speltE (σ := σ) (n := 11263) 111 108 100 0 0 0 (by decide)) ?_
      refine v_callVE (pc' := 59) (st' := [gI (gb (wdO k v = 23))]) (d' := 0) (av := [gJ 11263]) mi_mX12_isKey lk_X12_416 rfl ci_X12 kd_133 rfl (Nat.le_of_ble_eq_true rfl) (Nat.le_of_ble_eq_true rfl) dX12_numberAtHand_56 rfl rfl (mg_isKeyE (σ := σ) (P := wdO k v = 23) (11263) (by rw [show (11263 : Int) = 11263 by decide]; exact TKS.key hT kwc_23 (by decide) (by decide) (by decide))) ?_
      refine v_if_eqB (pc' := 62) (t := 64) dX12_numberAtHand_59 rfl rfl (fun c_59 => ?_) (fun c_59 => ?_)
      · skip
        refine w_aload_n (pc' := 65) (i := 0) (by rfl) (by rfl) dX12_numberAtHand_64 rfl ?_
        refine w_bipush (pc' := 67) (by decide) (by decide) dX12_numberAtHand_65 rfl ?_
        refine w_bipush (pc' := 69) (by decide) (by decide) dX12_numberAtHand_67 rfl ?_
        refine w_bipush (pc' := 71) (by decide) (by decide) dX12_numberAtHand_69 rfl ?_
        refine w_bipush (pc' := 73) (by decide) (by decide) dX12_numberAtHand_71 rfl ?_
        refine w_iconst (pc' := 74) (by decide) dX12_numberAtHand_73 rfl ?_
        refine w_iconst (pc' := 75) (by decide) dX12_numberAtHand_74 rfl ?_
        refine v_callSE (pc' := 78) (st' := [gJ 243146, gR 133]) (d' := 0) (av := [gI 108, gI 105, gI 110, gI 107, gI 0, gI 0]) ms_mX12_spelt st_mX12_spelt lk_X12_412 rfl rfl (Nat.le_of_ble_eq_true rfl) (Nat.le_of_ble_eq_true rfl) dX12_numberAtHand_75 rfl rfl (mg_speltE (σ := σ) (n := 243146) 108 105 110 107 0 0 (by decide)) ?_
        refine v_callVE (pc' := 81) (st' := [gI (gb (wdO k v = 24))]) (d' := 0) (av := [gJ 243146]) mi_mX12_isKey lk_X12_416 rfl ci_X12 kd_133 rfl (Nat.le_of_ble_eq_true rfl) (Nat.le_of_ble_eq_true rfl) dX12_numberAtHand_78 rfl rfl (mg_isKeyE (σ := σ) (P := wdO k v = 24) (243146) (by rw [show (243146 : Int) = 243146 by decide]; exact TKS.key hT kwc_24 (by decide) (by decide) (by decide))) ?_
        refine v_if_eqB (pc' := 84) (t := 86) dX12_numberAtHand_81 rfl rfl (fun c_81 => ?_) (fun c_81 => ?_)
        · skip
          refine w_aload_n (pc' := 87) (i := 0) (by rfl) (by rfl) dX12_numberAtHand_86 rfl ?_
          refine w_bipush (pc' := 89) (by decide) (by decide) dX12_numberAtHand_87 rfl ?_
          refine w_bipush (pc' := 91) (by decide) (by decide) dX12_numberAtHand_89 rfl ?_
          refine w_bipush (pc' := 93) (by decide) (by decide) dX12_numberAtHand_91 rfl ?_
          refine w_bipush (pc' := 95) (by decide) (by decide) dX12_numberAtHand_93 rfl ?_
          refine w_bipush (pc' := 97) (by decide) (by decide) dX12_numberAtHand_95 rfl ?_
          refine w_bipush (pc' := 99) (by decide) (by decide) dX12_numberAtHand_97 rfl ?_
          refine v_callSE (pc' := 102) (st' := [gJ 255400627, gR 133]) (d' := 0) (av := [gI 113, gI 117, gI 111, gI 114, gI 117, gI 109]) ms_mX12_spelt st_mX12_spelt lk_X12_412 rfl rfl (Nat.le_of_ble_eq_true rfl) (Nat.le_of_ble_eq_true rfl) dX12_numberAtHand_99 rfl rfl (mg_speltE (σ := σ) (n := 255400627) 113 117 111 114 117 109 (by decide)) ?_
          refine v_callVE (pc' := 105) (st' := [gI (gb (wdO k v = 25))]) (d' := 0) (av := [gJ 255400627]) mi_mX12_isKey lk_X12_416 rfl ci_X12 kd_133 rfl (Nat.le_of_ble_eq_true rfl) (Nat.le_of_ble_eq_true rfl) dX12_numberAtHand_102 rfl rfl (mg_isKeyE (σ := σ) (P := wdO k v = 25) (255400627) (by rw [show (255400627 : Int) = 255400627 by decide]; exact TKS.key hT kwc_25 (by decide) (by decide) (by decide))) ?_
          refine v_if_eqB (pc' := 108) (t := 112) dX12_numberAtHand_105 rfl rfl (fun c_105 => ?_) (fun c_105 => ?_)
          · skip
            refine w_iconst (pc' := 113) (by decide) dX12_numberAtHand_112 rfl ?_
            refine v_ireturn rfl dX12_numberAtHand_113 ?_
            first | (exfalso; omega) | exact ⟨congrArg gI (by unfold NAH; (repeat' split) <;> omega), rfl⟩
          · skip
            refine w_iconst (pc' := 109) (by decide) dX12_numberAtHand_108 rfl ?_
            refine w_goto (pc' := 113) dX12_numberAtHand_109 rfl ?_
            refine v_ireturn rfl dX12_numberAtHand_113 ?_
            first | (exfalso; omega) | exact ⟨congrArg gI (by unfold NAH; (repeat' split) <;> omega), rfl⟩
        · skip
          refine w_iconst (pc' := 85) (by decide) dX12_numberAtHand_84 rfl ?_
          refine v_ireturn rfl dX12_numberAtHand_85 ?_
          first | (exfalso; omega) | exact ⟨congrArg gI (by unfold NAH; (repeat' split) <;> omega), rfl⟩
      · skip
        refine w_iconst (pc' := 63) (by decide) dX12_numberAtHand_62 rfl ?_
        refine v_ireturn rfl dX12_numberAtHand_63 ?_
        first | (exfalso; omega) | exact ⟨congrArg gI (by unfold NAH; (repeat' split) <;> omega), rfl⟩
    · skip
      refine w_iconst (pc' := 42) (by decide) dX12_numberAtHand_41 rfl ?_
      refine v_ireturn rfl dX12_numberAtHand_42 ?_
      first | (exfalso; omega) | exact ⟨congrArg gI (by unfold NAH; (repeat' split) <;> omega), rfl⟩
  · skip
    refine w_iconst (pc' := 20) (by decide) dX12_numberAtHand_19 rfl ?_
    refine v_ireturn rfl dX12_numberAtHand_20 ?_
    first | (exfalso; omega) | exact ⟨congrArg gI (by unfold NAH; (repeat' split) <;> omega), rfl⟩
