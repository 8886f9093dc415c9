/-! the class reads a law: each token, the whole text (gen/mod_la.py) -/
theorem BND_of {L : Int} {M : gH} (I : INVb L M) : 0 ≤ M 57 13 ∧ 0 ≤ M 68 15 ∧ (0 ≤ M 68 2 ∧ M 68 2 < 600) ∧ (0 ≤ M 68 3 ∧ M 68 3 ≤ 8) ∧ (M 57 6 = 1 ∨ M 57 6 = 3 → M 57 11 ≠ 0 → M 68 3 < 8) ∧ (4 ≤ M 57 6 ∧ M 57 6 ≤ 7 → (0 ≤ M 57 17 ∧ M 57 17 ≤ 63) ∧ (0 ≤ M 57 14 ∧ M 57 14 ≤ 1000) ∧ (0 ≤ M 57 15 ∧ M 57 15 ≤ 1000) ∧ M 68 15 + M 57 17 ≤ 120 ∧ (0 ≤ M 57 12 ∧ M 57 12 < 10)) ∧ (M 57 6 = 4 → M 57 13 < 60 → M 68 15 + 1 + M 57 17 ≤ 120) ∧ (M 57 6 = 6 → M 68 15 + 1 + M 57 17 ≤ 120) ∧ (M 57 6 = 7 → 0 < M 57 15 → 1 ≤ lkF (M 67) 16 (M 57 17).toNat) := by
  have lb := links_br I
  obtain ⟨iT, iS, iN, iO, iZ, iR, iQ, iH, iC, i8⟩ := I
  obtain ⟨n1, n2, n3, n4⟩ := iN
  refine ⟨iO.1, iZ, ⟨n1, by omega⟩, n3, fun a b => ((iH (by omega)).1 b).1, fun a => ?_, fun a b => ?_, fun a => ?_, fun a => (lb a).1⟩
  · obtain ⟨C, ho, hz, hE, hr, ht, h7, h5, h6⟩ := iC a
    have lk := oth_lkI C.1 C.2.1
    have i0 := oth_in (M 67) (M 57 17).toNat
    have c1 := C.1
    have c3 := C.2.2.1
    have c4 := C.2.2.2.1
    have hz2 : M 68 15 + M 57 17 ≤ 2 * M 57 13 := by
      split at hz
      · omega
      · split at hz <;> omega
    omega
  · obtain ⟨C, ho, hz, hE, hr, ht, h7, h5, h6⟩ := iC (by omega)
    rw [a, if_neg (by omega), if_pos rfl] at hz
    omega
  · obtain ⟨C, ho, hz, hE, hr, ht, h7, h5, h6⟩ := iC (by omega)
    rw [a, if_neg (by omega), if_neg (by omega)] at hz
    omega
theorem wdO_in {k v : Int} (h : k = 2 → -1 ≤ v ∧ v ≤ 25) : -1 ≤ wdO k v ∧ wdO k v ≤ 25 := by
  unfold wdO
  split <;> omega
set_option maxHeartbeats 4000000 in
theorem kt_take {c : Nat} {σ0 σ S : gH} (hc : isD c) (hA : AG c σ0 σ S) {L : Int} (I : INVb L S) (k v : Int) (hk2 : k = 2 → -1 ≤ v ∧ v ≤ 25) : Mt mX5_take 4 [gR 57, gI k, gI v] σ (fun r9 σ' => r9 = gI (TAK S k v).2 ∧ AG c σ0 σ' (TAK S k v).1) := by
  refine Mt.walk (ls := [gR 57, gI k, gI v, gX 1]) pn_X5 rfl (fun _ _ h => by cases h.1) (Nat.le_of_ble_eq_true rfl) rfl ?_
  have hK := (isD_lw hc).1
  have hw := wdO_in hk2
  have hj_10 : Wp mX5_take 4 (fun r9 σ' => r9 = gI (TAK S k v).2 ∧ AG c σ0 σ' (TAK S k v).1) σ 10 [gR 57, gI k, gI v, gX 1] [gI (wdO k v)] := by
    refine w_istore_n (pc' := 11) (i := 3) (ls' := [gR 57, gI k, gI v, gI (wdO k v)]) (by rfl) (by decide) (by rfl) dX5_take_10 rfl ?_
    refine w_aload_n (pc' := 12) (i := 0) (by rfl) (by rfl) dX5_take_11 rfl ?_
    refine v_getI (pc' := 15) (ji := 6) rfl fg_X5_63 kd_57 dX5_take_12 rfl ?_
    rw [(hA).rd (k := 57) (i := 6) rfl]
    by_cases c_15 : (S 57 6) < 0 ∨ 8 < (S 57 6)
    · refine w_tableOut (pc' := 190) dX5_take_15 c_15 rfl ?_
      refine w_aload_n (pc' := 191) (i := 0) (by rfl) (by rfl) dX5_take_190 rfl ?_
      refine w_iload_n (pc' := 192) (i := 1) (by rfl) (by rfl) dX5_take_191 rfl ?_
      refine w_callV (pc' := 195) (d' := 1) (av := [gI k]) mi_mX5_takeRuleEnd lk_X5_123 rfl ci_X5 kd_57 rfl (Nat.le_of_ble_eq_true rfl) (Nat.le_of_ble_eq_true rfl) dX5_take_192 rfl (kt_takeRuleEnd hc hA k (by have B := BND_of I; omega)) (fun v_192 σ192 q_192 => ?_)
      obtain ⟨rfl, hA_192⟩ := q_192
      show Wp _ _ _ _ _ _ [gI ((LTF S k).2)]
      refine v_ireturn rfl dX5_take_195 ?_
      have e9 : TAK S k v = (((LTF S k).1), (LTF S k).2) := by
        first
        | (exfalso; omega)
        | (unfold TAK; repeat' (first | rfl | (exfalso; omega) | split))
      rw [e9]
      exact ⟨rfl, hA_192⟩
    · rcases (show (S 57 6) = 0 ∨ (S 57 6) = 1 ∨ (S 57 6) = 2 ∨ (S 57 6) = 3 ∨ (S 57 6) = 4 ∨ (S 57 6) = 5 ∨ (S 57 6) = 6 ∨ (S 57 6) = 7 ∨ (S 57 6) = 8 by omega) with c_15 | c_15 | c_15 | c_15 | c_15 | c_15 | c_15 | c_15 | c_15
      · refine w_tableIn (pc' := 64) (off := 49) dX5_take_15 (by omega) (by omega) (by rw [c_15]; rfl) rfl ?_
        refine w_iload_n (pc' := 65) (i := 1) (by rfl) (by rfl) dX5_take_64 rfl ?_
        refine w_if_ne (pc' := 68) (t := 75) dX5_take_65 rfl rfl (fun c_65 => ?_) (fun c_65 => ?_)
        · skip
          refine w_aload_n (pc' := 76) (i := 0) (by rfl) (by rfl) dX5_take_75 rfl ?_
          refine w_iload_n (pc' := 77) (i := 3) (by rfl) (by rfl) dX5_take_76 rfl ?_
          refine w_callV (pc' := 80) (d' := 1) (av := [gI (wdO k v)]) mi_mX5_takeRule lk_X5_94 rfl ci_X5 kd_57 rfl (Nat.le_of_ble_eq_true rfl) (Nat.le_of_ble_eq_true rfl) dX5_take_77 rfl (kt_takeRule hc hA (wdO k v) (by have B := BND_of I; omega) (by have B := BND_of I; omega)) (fun v_77 σ77 q_77 => ?_)
          obtain ⟨rfl, hA_77⟩ := q_77
          show Wp _ _ _ _ _ _ [gI ((LTR S (wdO k v)).2)]
          refine v_ireturn rfl dX5_take_80 ?_
          have e9 : TAK S k v = (((LTR S (wdO k v)).1), (LTR S (wdO k v)).2) := by
            first
            | (exfalso; omega)
            | (unfold TAK; repeat' (first | rfl | (exfalso; omega) | split))
          rw [e9]
          exact ⟨rfl, hA_77⟩
        · skip
          refine w_aload_n (pc' := 69) (i := 0) (by rfl) (by rfl) dX5_take_68 rfl ?_
          refine w_callV (pc' := 72) (d' := 1) (av := []) mi_mX5_takeEnd lk_X5_91 rfl ci_X5 kd_57 rfl (Nat.le_of_ble_eq_true rfl) (Nat.le_of_ble_eq_true rfl) dX5_take_69 rfl (kt_takeEnd hc hA  ) (fun v_69 σ69 q_69 => ?_)
          obtain ⟨rfl, hA_69⟩ := q_69
          show Wp _ _ _ _ _ _ [gI ((LTE S).2)]
          refine w_goto (pc' := 80) dX5_take_72 rfl ?_
          refine v_ireturn rfl dX5_take_80 ?_
          have e9 : TAK S k v = (((LTE S).1), (LTE S).2) := by
            first
            | (exfalso; omega)
            | (unfold TAK; repeat' (first | rfl | (exfalso; omega) | split))
          rw [e9]
          exact ⟨rfl, hA_69⟩
      · refine w_tableIn (pc' := 81) (off := 66) dX5_take_15 (by omega) (by omega) (by rw [c_15]; rfl) rfl ?_
        refine w_iload_n (pc' := 82) (i := 3) (by rfl) (by rfl) dX5_take_81 rfl ?_
        refine w_bipush (pc' := 84) (by decide) (by decide) dX5_take_82 rfl ?_
        refine w_icmp_ne (pc' := 87) (t := 94) dX5_take_84 rfl rfl (fun c_84 => ?_) (fun c_84 => ?_)
        · skip
          refine w_aload_n (pc' := 95) (i := 0) (by rfl) (by rfl) dX5_take_94 rfl ?_
          refine w_iload_n (pc' := 96) (i := 3) (by rfl) (by rfl) dX5_take_95 rfl ?_
          refine w_callV (pc' := 99) (d' := 1) (av := [gI (wdO k v)]) mi_mX5_takeIf lk_X5_98 rfl ci_X5 kd_57 rfl (Nat.le_of_ble_eq_true rfl) (Nat.le_of_ble_eq_true rfl) dX5_take_96 rfl (kt_takeIf hc hA (wdO k v) (by have B := BND_of I; omega) (by have B := BND_of I; omega)) (fun v_96 σ96 q_96 => ?_)
          obtain ⟨rfl, hA_96⟩ := q_96
          show Wp _ _ _ _ _ _ [gI ((LTI S (wdO k v)).2)]
          refine v_ireturn rfl dX5_take_99 ?_
          have e9 : TAK S k v = (((LTI S (wdO k v)).1), (LTI S (wdO k v)).2) := by
            first
            | (exfalso; omega)
            | (unfold TAK; repeat' (first | rfl | (exfalso; omega) | split))
          rw [e9]
          exact ⟨rfl, hA_96⟩
        · skip
          refine w_aload_n (pc' := 88) (i := 0) (by rfl) (by rfl) dX5_take_87 rfl ?_
          refine w_iconst (pc' := 89) (by decide) dX5_take_88 rfl ?_
          refine v_putI (pc' := 92) (ji := 6) rfl fp_X5_63 kd_57 sf_X5_6 dX5_take_89 rfl ?_
          refine w_iconst (pc' := 93) (by decide) dX5_take_92 rfl ?_
          refine v_ireturn rfl dX5_take_93 ?_
          have e9 : TAK S k v = (gUp S 57 6 2, 0) := by
            first
            | (exfalso; omega)
            | (unfold TAK; repeat' (first | rfl | (exfalso; omega) | split))
          rw [e9]
          exact ⟨rfl, (AG.u57 hc hA rfl)⟩
      · refine w_tableIn (pc' := 100) (off := 85) dX5_take_15 (by omega) (by omega) (by rw [c_15]; rfl) rfl ?_
        refine w_aload_n (pc' := 101) (i := 0) (by rfl) (by rfl) dX5_take_100 rfl ?_
        refine w_iload_n (pc' := 102) (i := 1) (by rfl) (by rfl) dX5_take_101 rfl ?_
        refine w_iload_n (pc' := 103) (i := 2) (by rfl) (by rfl) dX5_take_102 rfl ?_
        refine w_callV (pc' := 106) (d' := 0) (av := [gI k, gI v]) mi_mX5_takeDays lk_X5_101 rfl ci_X5 kd_57 rfl (Nat.le_of_ble_eq_true rfl) (Nat.le_of_ble_eq_true rfl) dX5_take_103 rfl (kt_takeDays hc hA k v ) (fun v_103 σ103 q_103 => ?_)
        obtain ⟨rfl, hA_103⟩ := q_103
        show Wp _ _ _ _ _ _ [gI ((LTD S k v).2)]
        refine v_ireturn rfl dX5_take_106 ?_
        have e9 : TAK S k v = (((LTD S k v).1), (LTD S k v).2) := by
          first
          | (exfalso; omega)
          | (unfold TAK; repeat' (first | rfl | (exfalso; omega) | split))
        rw [e9]
        exact ⟨rfl, hA_103⟩
      · refine w_tableIn (pc' := 107) (off := 92) dX5_take_15 (by omega) (by omega) (by rw [c_15]; rfl) rfl ?_
        refine w_aload_n (pc' := 108) (i := 0) (by rfl) (by rfl) dX5_take_107 rfl ?_
        refine w_iload_n (pc' := 109) (i := 3) (by rfl) (by rfl) dX5_take_108 rfl ?_
        refine w_callV (pc' := 112) (d' := 1) (av := [gI (wdO k v)]) mi_mX5_takeIf lk_X5_98 rfl ci_X5 kd_57 rfl (Nat.le_of_ble_eq_true rfl) (Nat.le_of_ble_eq_true rfl) dX5_take_109 rfl (kt_takeIf hc hA (wdO k v) (by have B := BND_of I; omega) (by have B := BND_of I; omega)) (fun v_109 σ109 q_109 => ?_)
        obtain ⟨rfl, hA_109⟩ := q_109
        show Wp _ _ _ _ _ _ [gI ((LTI S (wdO k v)).2)]
        refine v_ireturn rfl dX5_take_112 ?_
        have e9 : TAK S k v = (((LTI S (wdO k v)).1), (LTI S (wdO k v)).2) := by
          first
          | (exfalso; omega)
          | (unfold TAK; repeat' (first | rfl | (exfalso; omega) | split))
        rw [e9]
        exact ⟨rfl, hA_109⟩
      · refine w_tableIn (pc' := 113) (off := 98) dX5_take_15 (by omega) (by omega) (by rw [c_15]; rfl) rfl ?_
        refine w_aload_n (pc' := 114) (i := 0) (by rfl) (by rfl) dX5_take_113 rfl ?_
        refine w_iload_n (pc' := 115) (i := 1) (by rfl) (by rfl) dX5_take_114 rfl ?_
        refine w_iload_n (pc' := 116) (i := 3) (by rfl) (by rfl) dX5_take_115 rfl ?_
        refine w_callV (pc' := 119) (d' := 3) (av := [gI k, gI (wdO k v)]) mi_mX5_takeOne lk_X5_104 rfl ci_X5 kd_57 rfl (Nat.le_of_ble_eq_true rfl) (Nat.le_of_ble_eq_true rfl) dX5_take_116 rfl (kt_takeOne hc hA k (wdO k v) (by have B := BND_of I; omega) (by have B := BND_of I; omega) (by have B := BND_of I; omega) (by have B := BND_of I; omega) (by have B := BND_of I; omega)) (fun v_116 σ116 q_116 => ?_)
        obtain ⟨rfl, hA_116⟩ := q_116
        show Wp _ _ _ _ _ _ [gI ((LTO S k (wdO k v)).2)]
        refine v_ireturn rfl dX5_take_119 ?_
        have e9 : TAK S k v = (((LTO S k (wdO k v)).1), (LTO S k (wdO k v)).2) := by
          first
          | (exfalso; omega)
          | (unfold TAK; repeat' (first | rfl | (exfalso; omega) | split))
        rw [e9]
        exact ⟨rfl, hA_116⟩
      · refine w_tableIn (pc' := 120) (off := 105) dX5_take_15 (by omega) (by omega) (by rw [c_15]; rfl) rfl ?_
        refine w_aload_n (pc' := 121) (i := 0) (by rfl) (by rfl) dX5_take_120 rfl ?_
        refine w_iload_n (pc' := 122) (i := 1) (by rfl) (by rfl) dX5_take_121 rfl ?_
        refine v_putI (pc' := 125) (ji := 9) rfl fp_X5_107 kd_57 sf_X5_9 dX5_take_122 rfl ?_
        refine w_aload_n (pc' := 126) (i := 0) (by rfl) (by rfl) dX5_take_125 rfl ?_
        refine w_bipush (pc' := 128) (by decide) (by decide) dX5_take_126 rfl ?_
        refine v_putI (pc' := 131) (ji := 6) rfl fp_X5_63 kd_57 sf_X5_6 dX5_take_128 rfl ?_
        have hj_154 : Wp mX5_take 4 (fun r9 σ' => r9 = gI (TAK S k v).2 ∧ AG c σ0 σ' (TAK S k v).1) (gUp (gUp σ 57 9 k) 57 6 6) 154 [gR 57, gI k, gI v, gI (wdO k v)] [gI (if k = 60 ∨ k = 61 ∨ k = 62 then 0 else 1)] := by
          refine v_ireturn rfl dX5_take_154 ?_
          have e9 : TAK S k v = (gUp (gUp S 57 9 k) 57 6 6, if k = 60 ∨ k = 61 ∨ k = 62 then 0 else 1) := by
            first
            | (exfalso; omega)
            | (unfold TAK; repeat' (first | rfl | (exfalso; omega) | split))
          rw [e9]
          exact ⟨rfl, (AG.u57 hc (AG.u57 hc hA rfl) rfl)⟩
        refine w_iload_n (pc' := 132) (i := 1) (by rfl) (by rfl) dX5_take_131 rfl ?_
        refine w_bipush (pc' := 134) (by decide) (by decide) dX5_take_132 rfl ?_
        refine w_icmp_eq (pc' := 137) (t := 149) dX5_take_134 rfl rfl (fun c_134 => ?_) (fun c_134 => ?_)
        · skip
          refine w_iconst (pc' := 150) (by decide) dX5_take_149 rfl ?_
          refine w_goto (pc' := 154) dX5_take_150 rfl ?_
          exact Wp.stI (by first | (exfalso; omega) | (split <;> first | rfl | (exfalso; omega))) hj_154
        · skip
          refine w_iload_n (pc' := 138) (i := 1) (by rfl) (by rfl) dX5_take_137 rfl ?_
          refine w_bipush (pc' := 140) (by decide) (by decide) dX5_take_138 rfl ?_
          refine w_icmp_eq (pc' := 143) (t := 149) dX5_take_140 rfl rfl (fun c_140 => ?_) (fun c_140 => ?_)
          · skip
            refine w_iconst (pc' := 150) (by decide) dX5_take_149 rfl ?_
            refine w_goto (pc' := 154) dX5_take_150 rfl ?_
            exact Wp.stI (by first | (exfalso; omega) | (split <;> first | rfl | (exfalso; omega))) hj_154
          · skip
            refine w_iload_n (pc' := 144) (i := 1) (by rfl) (by rfl) dX5_take_143 rfl ?_
            refine w_bipush (pc' := 146) (by decide) (by decide) dX5_take_144 rfl ?_
            refine w_icmp_ne (pc' := 149) (t := 153) dX5_take_146 rfl rfl (fun c_146 => ?_) (fun c_146 => ?_)
            · skip
              refine w_iconst (pc' := 154) (by decide) dX5_take_153 rfl ?_
              exact Wp.stI (by first | (exfalso; omega) | (split <;> first | rfl | (exfalso; omega))) hj_154
            · skip
              refine w_iconst (pc' := 150) (by decide) dX5_take_149 rfl ?_
              refine w_goto (pc' := 154) dX5_take_150 rfl ?_
              exact Wp.stI (by first | (exfalso; omega) | (split <;> first | rfl | (exfalso; omega))) hj_154
      · refine w_tableIn (pc' := 155) (off := 140) dX5_take_15 (by omega) (by omega) (by rw [c_15]; rfl) rfl ?_
        refine w_iload_n (pc' := 156) (i := 1) (by rfl) (by rfl) dX5_take_155 rfl ?_
        refine w_iconst (pc' := 157) (by decide) dX5_take_156 rfl ?_
        refine w_icmp_eq (pc' := 160) (t := 162) dX5_take_157 rfl rfl (fun c_157 => ?_) (fun c_157 => ?_)
        · skip
          refine w_aload_n (pc' := 163) (i := 0) (by rfl) (by rfl) dX5_take_162 rfl ?_
          refine w_aload_n (pc' := 164) (i := 0) (by rfl) (by rfl) dX5_take_163 rfl ?_
          refine v_getI (pc' := 167) (ji := 8) rfl fg_X5_110 kd_57 dX5_take_164 rfl ?_
          rw [(hA).rd (k := 57) (i := 8) rfl]
          refine w_aload_n (pc' := 168) (i := 0) (by rfl) (by rfl) dX5_take_167 rfl ?_
          refine v_getI (pc' := 171) (ji := 9) rfl fg_X5_107 kd_57 dX5_take_168 rfl ?_
          rw [(hA).rd (k := 57) (i := 9) rfl]
          refine w_iload_n (pc' := 172) (i := 2) (by rfl) (by rfl) dX5_take_171 rfl ?_
          refine w_callV (pc' := 175) (d' := 2) (av := [gI (S 57 8), gI (S 57 9), gI v]) mi_mX5_takeAtom lk_X5_113 rfl ci_X5 kd_57 rfl (Nat.le_of_ble_eq_true rfl) (Nat.le_of_ble_eq_true rfl) dX5_take_172 rfl (kt_takeAtom hc hA (S 57 8) (S 57 9) v (by have B := BND_of I; omega) (by have B := BND_of I; omega) (by have B := BND_of I; omega)) (fun v_172 σ172 q_172 => ?_)
          obtain ⟨rfl, hA_172⟩ := q_172
          show Wp _ _ _ _ _ _ [gI 0]
          refine v_ireturn rfl dX5_take_175 ?_
          have e9 : TAK S k v = ((LTA S (S 57 8) (S 57 9) v), 0) := by
            first
            | (exfalso; omega)
            | (unfold TAK; repeat' (first | rfl | (exfalso; omega) | split))
          rw [e9]
          exact ⟨rfl, hA_172⟩
        · skip
          refine w_iconst (pc' := 161) (by decide) dX5_take_160 rfl ?_
          refine v_ireturn rfl dX5_take_161 ?_
          have e9 : TAK S k v = (S, 1) := by
            first
            | (exfalso; omega)
            | (unfold TAK; repeat' (first | rfl | (exfalso; omega) | split))
          rw [e9]
          exact ⟨rfl, hA⟩
      · refine w_tableIn (pc' := 176) (off := 161) dX5_take_15 (by omega) (by omega) (by rw [c_15]; rfl) rfl ?_
        refine w_aload_n (pc' := 177) (i := 0) (by rfl) (by rfl) dX5_take_176 rfl ?_
        refine w_iload_n (pc' := 178) (i := 1) (by rfl) (by rfl) dX5_take_177 rfl ?_
        refine w_iload_n (pc' := 179) (i := 3) (by rfl) (by rfl) dX5_take_178 rfl ?_
        refine w_callV (pc' := 182) (d' := 2) (av := [gI k, gI (wdO k v)]) mi_mX5_takeLink lk_X5_117 rfl ci_X5 kd_57 rfl (Nat.le_of_ble_eq_true rfl) (Nat.le_of_ble_eq_true rfl) dX5_take_179 rfl (kt_takeLink hc hA k (wdO k v) (by have B := BND_of I; omega) (by have B := BND_of I; omega) (by have B := BND_of I; omega) (by have B := BND_of I; omega) (by have B := BND_of I; omega) (by have B := BND_of I; omega) (by have B := BND_of I; omega)) (fun v_179 σ179 q_179 => ?_)
        obtain ⟨rfl, hA_179⟩ := q_179
        show Wp _ _ _ _ _ _ [gI ((LTL S k (wdO k v)).2)]
        refine v_ireturn rfl dX5_take_182 ?_
        have e9 : TAK S k v = (((LTL S k (wdO k v)).1), (LTL S k (wdO k v)).2) := by
          first
          | (exfalso; omega)
          | (unfold TAK; repeat' (first | rfl | (exfalso; omega) | split))
        rw [e9]
        exact ⟨rfl, hA_179⟩
      · refine w_tableIn (pc' := 183) (off := 168) dX5_take_15 (by omega) (by omega) (by rw [c_15]; rfl) rfl ?_
        refine w_aload_n (pc' := 184) (i := 0) (by rfl) (by rfl) dX5_take_183 rfl ?_
        refine w_iload_n (pc' := 185) (i := 1) (by rfl) (by rfl) dX5_take_184 rfl ?_
        refine w_iload_n (pc' := 186) (i := 2) (by rfl) (by rfl) dX5_take_185 rfl ?_
        refine w_callV (pc' := 189) (d' := 1) (av := [gI k, gI v]) mi_mX5_takeSetting lk_X5_120 rfl ci_X5 kd_57 rfl (Nat.le_of_ble_eq_true rfl) (Nat.le_of_ble_eq_true rfl) dX5_take_186 rfl (kt_takeSetting hc hA k v ) (fun v_186 σ186 q_186 => ?_)
        obtain ⟨rfl, hA_186⟩ := q_186
        show Wp _ _ _ _ _ _ [gI ((LTS S k v).2)]
        refine v_ireturn rfl dX5_take_189 ?_
        have e9 : TAK S k v = (((LTS S k v).1), (LTS S k v).2) := by
          first
          | (exfalso; omega)
          | (unfold TAK; repeat' (first | rfl | (exfalso; omega) | split))
        rw [e9]
        exact ⟨rfl, hA_186⟩
  refine w_iload_n (pc' := 1) (i := 1) (by rfl) (by rfl) dX5_take_0 rfl ?_
  refine w_iconst (pc' := 2) (by decide) dX5_take_1 rfl ?_
  refine w_icmp_ne (pc' := 5) (t := 9) dX5_take_2 rfl rfl (fun c_2 => ?_) (fun c_2 => ?_)
  · skip
    refine w_iconst (pc' := 10) (by decide) dX5_take_9 rfl ?_
    exact Wp.stI (by first | (exfalso; omega) | (unfold wdO; split <;> first | rfl | (exfalso; omega))) hj_10
  · skip
    refine w_iload_n (pc' := 6) (i := 2) (by rfl) (by rfl) dX5_take_5 rfl ?_
    refine w_goto (pc' := 10) dX5_take_6 rfl ?_
    exact Wp.stI (by first | (exfalso; omega) | (unfold wdO; split <;> first | rfl | (exfalso; omega))) hj_10
def OPN (S : gH) (n : Int) : gH := gUp (gUp (gUp (gUp S 66 0 1) 66 1 n) 66 2 (EDG n)) 66 4 0
theorem kc_open {c : Nat} {σ0 σ S : gH} (hc : isD c) (hA : AG c σ0 σ S) (n : Int) (hn : 0 ≤ n ∧ n ≤ 540) : Mt mX10_open 1 [gR 66, gR 1, gI n] σ (fun v σ' => v = gX 1 ∧ AG c σ0 σ' (OPN S n)) := by
  refine Mt.walk (ls := [gR 66, gR 1, gI n]) pn_X10 rfl (fun _ _ h => by cases h.1) (Nat.le_of_ble_eq_true rfl) rfl ?_
  have hK := (isD_lw hc).1
  have hE := EDG_in n
  refine w_aload_n (pc' := 1) (i := 0) (by rfl) (by rfl) dX10_open_0 rfl ?_
  refine w_aload_n (pc' := 2) (i := 1) (by rfl) (by rfl) dX10_open_1 rfl ?_
  refine v_putM (pc' := 5) (ji := 0) rfl fp_X10_9 rfl kd_66 sf_X10_0 dX10_open_2 rfl ?_
  refine w_aload_n (pc' := 6) (i := 0) (by rfl) (by rfl) dX10_open_5 rfl ?_
  refine w_aload_n (pc' := 7) (i := 1) (by rfl) (by rfl) dX10_open_6 rfl ?_
  refine w_ifnonnull (pc' := 14) dX10_open_7 rfl ?_
  refine w_iconst (pc' := 15) (by decide) dX10_open_14 rfl ?_
  refine w_iload_n (pc' := 16) (i := 2) (by rfl) (by rfl) dX10_open_15 rfl ?_
  refine w_aload_n (pc' := 17) (i := 1) (by rfl) (by rfl) dX10_open_16 rfl ?_
  refine w_alen (pc' := 18) kd_1 (by decide) (by decide) dX10_open_17 rfl ?_
  refine w_imin (pc' := 21) lk_X10_15 (Nat.le_of_ble_eq_true rfl) (Nat.le_of_ble_eq_true rfl) dX10_open_18 rfl ?_
  refine w_imax (pc' := 24) lk_X10_21 (Nat.le_of_ble_eq_true rfl) (Nat.le_of_ble_eq_true rfl) dX10_open_21 rfl ?_
  refine v_putI (pc' := 27) (ji := 1) rfl fp_X10_24 kd_66 sf_X10_1 dX10_open_24 rfl ?_
  refine w_aload_n (pc' := 28) (i := 0) (by rfl) (by rfl) dX10_open_27 rfl ?_
  refine w_aload_n (pc' := 29) (i := 0) (by rfl) (by rfl) dX10_open_28 rfl ?_
  refine v_getI (pc' := 32) (ji := 1) rfl fg_X10_24 kd_66 dX10_open_29 rfl ?_
  show Wp _ _ _ _ _ _ [gI (if 0 < (if 540 < n then 540 else n) then (if 540 < n then 540 else n) else 0), gR 66]
  refine w_sipush (pc' := 35) (by decide) (by decide) dX10_open_32 rfl ?_
  refine w_imin (pc' := 38) lk_X10_15 (Nat.le_of_ble_eq_true rfl) (Nat.le_of_ble_eq_true rfl) dX10_open_35 rfl ?_
  refine v_putI (pc' := 41) (ji := 2) rfl fp_X10_28 kd_66 sf_X10_2 dX10_open_38 rfl ?_
  refine w_aload_n (pc' := 42) (i := 0) (by rfl) (by rfl) dX10_open_41 rfl ?_
  refine w_iconst (pc' := 43) (by decide) dX10_open_42 rfl ?_
  refine v_putI (pc' := 46) (ji := 4) rfl fp_X10_31 kd_66 sf_X10_4 dX10_open_43 rfl ?_
  refine w_return rfl dX10_open_46 ?_
  have e1 : (if 0 < (if 540 < n then 540 else n) then (if 540 < n then 540 else n) else 0 : Int) = n := by (repeat' split) <;> omega
  have e2 : (if 500 < (if 0 < (if 540 < n then 540 else n) then (if 540 < n then 540 else n) else 0) then 500 else (if 0 < (if 540 < n then 540 else n) then (if 540 < n then 540 else n) else 0) : Int) = EDG n := by (repeat' split) <;> omega
  show gX 1 = gX 1 ∧ AG c σ0 (gUp (gUp (gUp (gUp σ 66 0 1) 66 1 (if 0 < (if 540 < n then 540 else n) then (if 540 < n then 540 else n) else 0)) 66 2 (if 500 < (if 0 < (if 540 < n then 540 else n) then (if 540 < n then 540 else n) else 0) then 500 else (if 0 < (if 540 < n then 540 else n) then (if 540 < n then 540 else n) else 0))) 66 4 0) (OPN S n)
  rw [e2, e1]
  exact ⟨rfl, AG.u66 hc (AG.u66 hc (AG.u66 hc (AG.u66 hc hA)))⟩
theorem kc_kind {c : Nat} {σ0 σ S : gH} (hc : isD c) (hA : AG c σ0 σ S)  : Mt mX10_kind 0 [gR 66] σ (rE (gI (S 66 5)) σ) := by
  refine Mt.walk (ls := [gR 66]) pn_X10 rfl (fun _ _ h => by cases h.1) (Nat.le_of_ble_eq_true rfl) rfl ?_
  have hK := (isD_lw hc).1
  refine w_aload_n (pc' := 1) (i := 0) (by rfl) (by rfl) dX10_kind_0 rfl ?_
  refine v_getI (pc' := 4) (ji := 5) rfl fg_X10_34 kd_66 dX10_kind_1 rfl ?_
  rw [(hA).rd (k := 66) (i := 5) rfl]
  refine v_ireturn rfl dX10_kind_4 ?_
  exact ⟨rfl, rfl⟩
theorem kc_value {c : Nat} {σ0 σ S : gH} (hc : isD c) (hA : AG c σ0 σ S)  : Mt mX10_value 0 [gR 66] σ (rE (gI (S 66 6)) σ) := by
  refine Mt.walk (ls := [gR 66]) pn_X10 rfl (fun _ _ h => by cases h.1) (Nat.le_of_ble_eq_true rfl) rfl ?_
  have hK := (isD_lw hc).1
  refine w_aload_n (pc' := 1) (i := 0) (by rfl) (by rfl) dX10_value_0 rfl ?_
  refine v_getI (pc' := 4) (ji := 6) rfl fg_X10_37 kd_66 dX10_value_1 rfl ?_
  rw [(hA).rd (k := 66) (i := 6) rfl]
  refine v_ireturn rfl dX10_value_4 ?_
  exact ⟨rfl, rfl⟩
theorem kc_place {c : Nat} {σ0 σ S : gH} (hc : isD c) (hA : AG c σ0 σ S)  : Mt mX10_place 0 [gR 66] σ (rE (gI (S 66 3)) σ) := by
  refine Mt.walk (ls := [gR 66]) pn_X10 rfl (fun _ _ h => by cases h.1) (Nat.le_of_ble_eq_true rfl) rfl ?_
  have hK := (isD_lw hc).1
  refine w_aload_n (pc' := 1) (i := 0) (by rfl) (by rfl) dX10_place_0 rfl ?_
  refine v_getI (pc' := 4) (ji := 3) rfl fg_X10_40 kd_66 dX10_place_1 rfl ?_
  rw [(hA).rd (k := 66) (i := 3) rfl]
  refine v_ireturn rfl dX10_place_4 ?_
  exact ⟨rfl, rfl⟩
theorem kx_rulesL {c : Nat} (hc : isLw c) (σ : gH) : Mt mX4_totalRules 0 [gR c] σ (rE (gI (σ c 2)) σ) := by
  refine Mt.walk (ls := [gR c]) pn_X4 rfl (fun _ _ h => by cases h.1) (Nat.le_of_ble_eq_true rfl) rfl ?_
  refine w_aload_n (pc' := 1) (i := 0) (by rfl) (by rfl) dX4_totalRules_0 rfl ?_
  refine v_getI (pc' := 4) (ji := 2) rfl fg_X4_49 hc.1 dX4_totalRules_1 rfl ?_
  refine v_ireturn rfl dX4_totalRules_4 ?_
  exact ⟨rfl, rfl⟩
theorem kc_advance {c : Nat} {σ0 σ S : gH} (hc : isD c) (hA : AG c σ0 σ S) (h0 : S 66 0 = 1) (hL : S 66 1 ≤ 540) (hE : S 66 2 ≤ S 66 1) (hp : 0 ≤ S 66 4) : Mt mX10_advance 7 [gR 66] σ (fun v σ' => ∃ a q k w, v = gX 1 ∧ AG c σ0 σ' (ADV S a q k w) ∧ TOKN (σ0 1) (S 66 1) (S 66 2) (S 66 4) a q k w) := by
  have e : σ 66 = S 66 := hA.2.2.1
  have h68 : 68 ≤ c := by rcases hc with h | h | h | h | h | h <;> omega
  have e1 : σ 1 = σ0 1 := funext fun i => hA.fr ⟨by omega, by omega, by omega, fun q => by omega⟩
  refine (kt_advance (by rw [e]; exact h0) (by rw [e]; exact hL) (by rw [e]; exact hE) (by rw [e]; exact hp)).mono fun v σ1 q => ?_
  obtain ⟨a, q, k, w, rfl, rfl, t⟩ := q
  rw [e, e1] at t
  exact ⟨a, q, k, w, rfl, AG.u66 hc (AG.u66 hc (AG.u66 hc (AG.u66 hc hA))), t⟩
theorem kx_rules {c : Nat} {σ0 σ S : gH} (hc : isD c) (hA : AG c σ0 σ S) (x : Int) : Mt mX4_totalRules 0 [gR c] (gUp σ 57 2 x) (rE (gI (S 68 2)) (gUp σ 57 2 x)) := by
  have h68 : 68 ≤ c := by rcases hc with h | h | h | h | h | h <;> omega
  have e : (gUp σ 57 2 x) c 2 = S 68 2 := by
    rw [gUp_ne (by omega)]
    exact congrFun (hA.dd 0 (by decide)) 2
  rw [← e]
  exact kx_rulesL (isD_lw hc).1 _
/-- the state as it stands, the draft told in its own place -/
def SOF (c : Nat) (σ : gH) : gH := fun k => if 68 ≤ k ∧ k < 75 then σ (c + (k - 68)) else σ k
theorem AG_init {c : Nat} {σ : gH} (hd : σ 57 5 = (c : Int)) : AG c σ σ (SOF c σ) := by
  refine ⟨fun i _ => rfl, hd, rfl, rfl, fun n hn => ?_, fun _ _ _ => rfl⟩
  show σ (c + n) = if 68 ≤ 68 + n ∧ 68 + n < 75 then σ (c + (68 + n - 68)) else σ (68 + n)
  rw [if_pos (by omega), show 68 + n - 68 = n by omega]
/-- the reading begins -/
def BEG (S : gH) (f k n : Int) : gH := gUp (gUp (gUp (gUp (OPN (LCR S f k) n) 57 3 0) 57 6 0) 57 7 0) 57 13 0
theorem INV_beg {S : gH} {f k n : Int} (hn : 0 ≤ n ∧ n ≤ 540) : INV n (BEG S f k n) := by
  intro _
  refine IV_out (s := 0) ⟨rfl, rfl, rfl, Int.le_refl _, hn.1⟩ ⟨Int.le_refl _, ⟨Int.le_refl _, ?_⟩, ⟨Int.le_refl _, ?_⟩, fun k a b => ?_, ⟨?_, ?_⟩, ⟨?_, ?_⟩, ⟨?_, ?_⟩, ⟨?_, ?_⟩, ?_, ?_⟩ ⟨Int.le_refl _, ?_⟩ (Int.le_refl _) (fun r a b _ => Or.inl ?_) (Int.le_refl _) rfl (by omega) (fun a b => by omega) (fun a => by omega)
  case _ => exact (by decide : (0 : Int) ≤ 500)
  case _ => exact (by decide : (0 : Int) ≤ 8)
  case _ => exact absurd (show k < 0 from b) (by omega)
  case _ => exact (by decide : (0 : Int) ≤ 1)
  case _ => exact (by decide : (1 : Int) ≤ 4)
  case _ => exact (by decide : (1 : Int) ≤ 365)
  case _ => exact (by decide : (365 : Int) ≤ 999)
  case _ => exact (by decide : (0 : Int) ≤ 365)
  case _ => exact (by decide : (365 : Int) ≤ 3650)
  case _ => exact (by decide : (1 : Int) ≤ 90)
  case _ => exact (by decide : (90 : Int) ≤ 999)
  case _ => exact (by decide : (0 : Int) ≤ 0)
  case _ => exact (by decide : (0 : Int) ≤ 12)
  case _ => exact (by decide : (0 : Int) ≤ 60)
  case _ =>
    show fillF (S 70) 10 0 r = fillF (S 71) 10 0 r
    rw [fillF_in a b, fillF_in a b]
theorem v_callSEN {M : gM} {d : Nat} {Q : gV → gH → Prop} {σ : gH} {pc pc' : Nat} {ls st : List gV} {M' : gM} {idx n d' : Nat} {host : String} {av st0 st' : List gV} {v1 : gV} {σ1 : gH} (hm : gMs M' n) (hstat : Cond.static M'.1 ∈ gG) (hlink : Cond.methodLinkNest M.1.cls idx M'.1 host ∈ tables_1) (hn : av.length = n) (hst : st0 = av.reverse ++ st) (hcat : gCat st ≤ 8) (hdd : d' + 1 ≤ d) (hd : decode M.2.1 pc = .ok (.invokestatic idx, 3)) (hpc : pc + 3 = pc') (hpu : gPush v1 st = st')
    (hM : Mt M' d' av σ (rE v1 σ1)) (k : Wp M d Q σ1 pc' ls st') : Wp M d Q σ pc ls st0 := fun hg =>
  wg_callSN (mc := 0) (ms := 0) hm hstat hlink hn hst hcat hdd hd hpc (hM hg) fun v L' σ' h => by
    obtain ⟨rfl, h2, h3⟩ := h
    obtain ⟨rfl, rfl⟩ := h3
    rw [hpu]
    exact k h2
theorem TAK_0 {M : gH} {k v : Int} (h : M 57 6 = 0) : TAK M k v = if k = 0 then LTE M else LTR M (wdO k v) := if_pos h
theorem TAK_1 {M : gH} {k v : Int} (h : M 57 6 = 1) : TAK M k v = if wdO k v = 18 then (gUp M 57 6 2, 0) else LTI M (wdO k v) := by
  unfold TAK; rw [if_neg (by omega), if_pos h]
theorem TAK_2 {M : gH} {k v : Int} (h : M 57 6 = 2) : TAK M k v = LTD M k v := by
  unfold TAK; rw [if_neg (by omega), if_neg (by omega), if_pos h]
theorem TAK_3 {M : gH} {k v : Int} (h : M 57 6 = 3) : TAK M k v = LTI M (wdO k v) := by
  unfold TAK; rw [if_neg (by omega), if_neg (by omega), if_neg (by omega), if_pos h]
theorem TAK_4 {M : gH} {k v : Int} (h : M 57 6 = 4) : TAK M k v = LTO M k (wdO k v) := by
  unfold TAK; rw [if_neg (by omega), if_neg (by omega), if_neg (by omega), if_neg (by omega), if_pos h]
theorem TAK_5 {M : gH} {k v : Int} (h : M 57 6 = 5) : TAK M k v = (gUp (gUp M 57 9 k) 57 6 6, if k = 60 ∨ k = 61 ∨ k = 62 then 0 else 1) := by
  unfold TAK; rw [if_neg (by omega), if_neg (by omega), if_neg (by omega), if_neg (by omega), if_neg (by omega), if_pos h]
theorem TAK_6 {M : gH} {k v : Int} (h : M 57 6 = 6) : TAK M k v = if k ≠ 3 then (M, 1) else (LTA M (M 57 8) (M 57 9) v, 0) := by
  unfold TAK; rw [if_neg (by omega), if_neg (by omega), if_neg (by omega), if_neg (by omega), if_neg (by omega), if_neg (by omega), if_pos h]
theorem TAK_7 {M : gH} {k v : Int} (h : M 57 6 = 7) : TAK M k v = LTL M k (wdO k v) := by
  unfold TAK; rw [if_neg (by omega), if_neg (by omega), if_neg (by omega), if_neg (by omega), if_neg (by omega), if_neg (by omega), if_neg (by omega), if_pos h]
theorem TAK_8 {M : gH} {k v : Int} (h : M 57 6 = 8) : TAK M k v = LTS M k v := by
  unfold TAK; rw [if_neg (by omega), if_neg (by omega), if_neg (by omega), if_neg (by omega), if_neg (by omega), if_neg (by omega), if_neg (by omega), if_neg (by omega), if_pos h]
theorem TAK_9 {M : gH} {k v : Int} (h : M 57 6 = 9) : TAK M k v = LTF M k := by
  unfold TAK; rw [if_neg (by omega), if_neg (by omega), if_neg (by omega), if_neg (by omega), if_neg (by omega), if_neg (by omega), if_neg (by omega), if_neg (by omega), if_neg (by omega)]
theorem ite66 {p : Prop} [Decidable p] {A B : gH × Int} {R : Int → Int} (ha : A.1 66 = R) (hb : B.1 66 = R) : (if p then A else B).1 66 = R := by
  by_cases c : p
  · rw [if_pos c]; exact ha
  · rw [if_neg c]; exact hb
theorem TAK_66 {S : gH} {k v : Int} : (TAK S k v).1 66 = S 66 := by
  unfold TAK LTE LTR LTI LTD LTO LTL LTS LTF
  repeat' refine ite66 ?_ ?_
  all_goals rfl
theorem TAK_end {S : gH} {a q k v : Int} (hk : k = 0) : FIN (NXT S a q k v) := by
  subst hk
  have e0 : wdO 0 v = -1 := if_neg (by decide)
  show (TAK (ADV S a q 0 v) 0 v).2 ≠ 0 ∨ (TAK (ADV S a q 0 v) 0 v).1 57 6 = 10
  generalize ADV S a q 0 v = M
  by_cases h0 : M 57 6 = 0
  · rw [TAK_0 h0, if_pos rfl]; exact Or.inr rfl
  · refine Or.inl ?_
    have LI : (LTI M (-1)).2 = 1 := by unfold LTI; rw [if_pos (by decide)]
    have LO : (LTO M 0 (-1)).2 = 1 := by unfold LTO; rw [if_pos ⟨by omega, fun h => by omega⟩]
    have LL : (LTL M 0 (-1)).2 = 1 := by unfold LTL; rw [if_neg (by omega), if_neg (by omega), if_neg (by omega)]
    have LF : (LTF M 0).2 = 1 := by unfold LTF; rw [if_pos (by decide)]
    by_cases h1 : M 57 6 = 1
    · rw [TAK_1 h1, e0, if_neg (by decide), LI]; decide
    · by_cases h2 : M 57 6 = 2
      · rw [TAK_2 h2, show (LTD M 0 v).2 = 1 by unfold LTD; rw [if_pos (by decide)]]; decide
      · by_cases h3 : M 57 6 = 3
        · rw [TAK_3 h3, e0, LI]; decide
        · by_cases h4 : M 57 6 = 4
          · rw [TAK_4 h4, e0, LO]; decide
          · by_cases h5 : M 57 6 = 5
            · rw [TAK_5 h5, if_neg (by decide)]; exact (by decide : (1 : Int) ≠ 0)
            · by_cases h6 : M 57 6 = 6
              · rw [TAK_6 h6, if_pos (by decide)]; exact (by decide : (1 : Int) ≠ 0)
              · by_cases h7 : M 57 6 = 7
                · rw [TAK_7 h7, e0, LL]; decide
                · by_cases h8 : M 57 6 = 8
                  · rw [TAK_8 h8, show (LTS M 0 v).2 = 1 by unfold LTS; rw [if_pos (by decide)]]; decide
                  · have e9 : TAK M 0 v = LTF M 0 := by
                      unfold TAK; rw [if_neg h0, if_neg h1, if_neg h2, if_neg h3, if_neg h4, if_neg h5, if_neg h6, if_neg h7, if_neg h8]
                    rw [e9, LF]; decide
theorem NXT_66 {S : gH} {a q k v : Int} : (NXT S a q k v) 66 4 = q := by
  show (TAK (ADV S a q k v) k v).1 66 4 = q
  rw [TAK_66]; rfl
theorem NXT_66a {S : gH} {a q k v : Int} : (NXT S a q k v) 66 3 = a := by
  show (TAK (ADV S a q k v) k v).1 66 3 = a
  rw [TAK_66]; rfl
theorem TOKN_pl {T : Int → Int} {L p a q k v : Int} (hp : 0 ≤ p) (hn : 0 ≤ L ∧ L ≤ 540) (h : TOKN T L (EDG L) p a q k v) : 0 ≤ a ∧ a ≤ 540 := by
  have hE := EDG_in L
  rcases h with ⟨_, h2, _⟩ | ⟨_, h2, h3, _⟩ <;> omega
set_option maxHeartbeats 4000000 in
theorem kt_add {c : Nat} {σ : gH} (hc : isD c) (hn2 : 0 ≤ σ 57 2 ∧ σ 57 2 < 6) (hcn : σ 58 (σ 57 2) = (c : Int)) (f k n : Int) (hf : isDy f) (hn : 0 ≤ n ∧ n ≤ 540) : Mt mX5_add 10 [gR 57, gI f, gI k, gR 1, gI n] σ (fun v σ' => ∃ σl A, AG c (gUp σ 57 5 (c : Int)) σl A ∧ RCH (σ 1) n (BEG (SOF c (gUp σ 57 5 (c : Int))) f k n) A ∧ FIN A ∧ ((A 57 3 ≠ 0 ∧ v = gI (-1 - A 66 3) ∧ σ' = σl) ∨ (A 57 3 = 0 ∧ v = gI (A 68 2) ∧ σ' = gUp σl 57 2 (σ 57 2 + 1)))) := by
  refine Mt.walk (ls := [gR 57, gI f, gI k, gR 1, gI n, gX 1]) pn_X5 rfl (fun _ _ h => by obtain ⟨_, _, _, _, _, h | h⟩ := h; (cases h.2.1); cases h.2.1) (Nat.le_of_ble_eq_true rfl) rfl ?_
  have hK := (isD_lw hc).1
  unfold isDy at hf
  refine w_aload_n (pc' := 1) (i := 0) (by rfl) (by rfl) dX5_add_0 rfl ?_
  refine v_getI (pc' := 4) (ji := 2) rfl fg_X5_36 kd_57 dX5_add_1 rfl ?_
  refine w_if_lt (pc' := 7) (t := 35) dX5_add_4 rfl rfl (fun c_4 => ?_) (fun c_4 => ?_)
  · skip
    refine w_sipush (pc' := 38) (by decide) (by decide) dX5_add_35 rfl ?_
    refine v_ireturn rfl dX5_add_38 ?_
    exfalso; omega
  · skip
    refine w_aload_n (pc' := 8) (i := 0) (by rfl) (by rfl) dX5_add_7 rfl ?_
    refine v_getI (pc' := 11) (ji := 2) rfl fg_X5_36 kd_57 dX5_add_8 rfl ?_
    refine w_bipush (pc' := 13) (by decide) (by decide) dX5_add_11 rfl ?_
    refine w_icmp_ge (pc' := 16) (t := 35) dX5_add_13 rfl rfl (fun c_13 => ?_) (fun c_13 => ?_)
    · skip
      refine w_sipush (pc' := 38) (by decide) (by decide) dX5_add_35 rfl ?_
      refine v_ireturn rfl dX5_add_38 ?_
      exfalso; omega
    · skip
      refine w_aload_n (pc' := 17) (i := 0) (by rfl) (by rfl) dX5_add_16 rfl ?_
      refine w_getS (pc' := 20) (q := 58) fg_X5_13 kd_57 sf_X5_0 gr_57_0 dX5_add_17 rfl ?_
      refine w_aload_n (pc' := 21) (i := 0) (by rfl) (by rfl) dX5_add_20 rfl ?_
      refine v_getI (pc' := 24) (ji := 2) rfl fg_X5_36 kd_57 dX5_add_21 rfl ?_
      refine w_aald (pc' := 25) (q := c) kd_58 (by omega) (by omega) hcn dX5_add_24 rfl ?_
      refine w_ifnull (pc' := 28) dX5_add_25 rfl ?_
      refine w_iload_n (pc' := 29) (i := 1) (by rfl) (by rfl) dX5_add_28 rfl ?_
      refine v_callSEN (pc' := 32) (st' := [gI (gb (0 ≤ f ∧ f ≤ 9999))]) (d' := 0) (av := [gI f]) ms_mX11_isDay st_mX11_isDay ln_X5_51 rfl rfl (Nat.le_of_ble_eq_true rfl) (Nat.le_of_ble_eq_true rfl) dX5_add_29 rfl rfl (cl_isDay σ f) ?_
      refine v_if_neB (pc' := 35) (t := 39) dX5_add_32 rfl rfl (fun c_32 => ?_) (fun c_32 => ?_)
      · skip
        refine w_aload_n (pc' := 40) (i := 0) (by rfl) (by rfl) dX5_add_39 rfl ?_
        refine w_aload_n (pc' := 41) (i := 0) (by rfl) (by rfl) dX5_add_40 rfl ?_
        refine w_getS (pc' := 44) (q := 58) fg_X5_13 kd_57 sf_X5_0 gr_57_0 dX5_add_41 rfl ?_
        refine w_aload_n (pc' := 45) (i := 0) (by rfl) (by rfl) dX5_add_44 rfl ?_
        refine v_getI (pc' := 48) (ji := 2) rfl fg_X5_36 kd_57 dX5_add_45 rfl ?_
        refine w_aald (pc' := 49) (q := c) kd_58 (by omega) (by omega) hcn dX5_add_48 rfl ?_
        refine v_putM (pc' := 52) (ji := 5) rfl fp_X5_29 rfl kd_57 sf_X5_5 dX5_add_49 rfl ?_
        have hrow1 : (gUp σ 57 5 (c : Int)) 1 = σ 1 := rfl
        obtain ⟨σb, hb⟩ : ∃ s, s = gUp σ 57 5 (c : Int) := ⟨_, rfl⟩
        have hA0 : AG c σb σb (SOF c σb) := AG_init (by rw [hb]; rfl)
        have hb1 : σb 1 = σ 1 := by rw [hb]; rfl
        have hb2 : σb 57 2 = σ 57 2 := by rw [hb]; rfl
        obtain ⟨S, hS⟩ : ∃ s, s = SOF c σb := ⟨_, rfl⟩
        rw [← hS] at hA0
        refine Wp.heq (σ' := σb) hb.symm ?_
        refine w_aload_n (pc' := 53) (i := 0) (by rfl) (by rfl) dX5_add_52 rfl ?_
        refine v_getM (pc' := 56) (q := c) (ji := 5) rfl fg_X5_29 kd_57 hA0.dr dX5_add_53 rfl ?_
        refine w_iload_n (pc' := 57) (i := 1) (by rfl) (by rfl) dX5_add_56 rfl ?_
        refine w_iload_n (pc' := 58) (i := 2) (by rfl) (by rfl) dX5_add_57 rfl ?_
        refine w_callV (pc' := 61) (d' := 1) (av := [gI f, gI k]) mi_mX4_clear lk_X5_55 rfl ci_X4 hK.1 rfl (Nat.le_of_ble_eq_true rfl) (Nat.le_of_ble_eq_true rfl) dX5_add_58 rfl (kc_clear hc hA0 f k) (fun v_58 σ58 q_58 => ?_)
        obtain ⟨rfl, hA_58⟩ := q_58
        show Wp _ _ _ _ _ _ []
        refine w_aload_n (pc' := 62) (i := 0) (by rfl) (by rfl) dX5_add_61 rfl ?_
        refine w_getS (pc' := 65) (q := 66) fg_X5_25 kd_57 sf_X5_4 gr_57_4 dX5_add_62 rfl ?_
        refine w_aload_n (pc' := 66) (i := 3) (by rfl) (by rfl) dX5_add_65 rfl ?_
        refine w_iload (pc' := 68) (by rfl) dX5_add_66 rfl ?_
        refine w_callV (pc' := 71) (d' := 1) (av := [gR 1, gI n]) mi_mX10_open lk_X5_59 rfl ci_X10 kd_66 rfl (Nat.le_of_ble_eq_true rfl) (Nat.le_of_ble_eq_true rfl) dX5_add_68 rfl (kc_open hc hA_58 n hn) (fun v_68 σ68 q_68 => ?_)
        obtain ⟨rfl, hA_68⟩ := q_68
        show Wp _ _ _ _ _ _ []
        refine w_aload_n (pc' := 72) (i := 0) (by rfl) (by rfl) dX5_add_71 rfl ?_
        refine w_iconst (pc' := 73) (by decide) dX5_add_72 rfl ?_
        refine v_putI (pc' := 76) (ji := 3) rfl fp_X5_40 kd_57 sf_X5_3 dX5_add_73 rfl ?_
        refine w_aload_n (pc' := 77) (i := 0) (by rfl) (by rfl) dX5_add_76 rfl ?_
        refine w_iconst (pc' := 78) (by decide) dX5_add_77 rfl ?_
        refine v_putI (pc' := 81) (ji := 6) rfl fp_X5_63 kd_57 sf_X5_6 dX5_add_78 rfl ?_
        refine w_aload_n (pc' := 82) (i := 0) (by rfl) (by rfl) dX5_add_81 rfl ?_
        refine w_iconst (pc' := 83) (by decide) dX5_add_82 rfl ?_
        refine v_putI (pc' := 86) (ji := 7) rfl fp_X5_66 kd_57 sf_X5_7 dX5_add_83 rfl ?_
        refine w_aload_n (pc' := 87) (i := 0) (by rfl) (by rfl) dX5_add_86 rfl ?_
        refine w_iconst (pc' := 88) (by decide) dX5_add_87 rfl ?_
        refine v_putI (pc' := 91) (ji := 13) rfl fp_X5_69 kd_57 sf_X5_13 dX5_add_88 rfl ?_
        refine w_iconst (pc' := 92) (by decide) dX5_add_91 rfl ?_
        have hA94 : AG c σb (gUp (gUp (gUp (gUp σ68 57 3 0) 57 6 0) 57 7 0) 57 13 0) (BEG S f k n) := (AG.u57 hc (AG.u57 hc (AG.u57 hc (AG.u57 hc hA_68 rfl) rfl) rfl) rfl)
        refine w_istore (pc' := 94) (ls' := [gR 57, gI f, gI k, gR 1, gI n, gI 0]) (by decide) (by rfl) dX5_add_92 rfl ?_
        have hl_94 : ∀ (mm : Nat) (i : Int) (σl Sl : gH), (501 - i).toNat = mm → (0 ≤ i ∧ i ≤ 501) → (AG c σb σl Sl) → (TRC (σ 1) n i.toNat (BEG S f k n) Sl) → (¬ FIN Sl → i ≤ Sl 66 4 ∧ i ≤ 500) → (Sl 57 3 ≠ 0 → 0 ≤ Sl 66 3 ∧ Sl 66 3 ≤ 540) → Wp mX5_add 10 (fun v σ' => ∃ σl A, AG c (gUp σ 57 5 (c : Int)) σl A ∧ RCH (σ 1) n (BEG (SOF c (gUp σ 57 5 (c : Int))) f k n) A ∧ FIN A ∧ ((A 57 3 ≠ 0 ∧ v = gI (-1 - A 66 3) ∧ σ' = σl) ∨ (A 57 3 = 0 ∧ v = gI (A 68 2) ∧ σ' = gUp σl 57 2 (σ 57 2 + 1)))) σl 94 [gR 57, gI f, gI k, gR 1, gI n, gI i] [] := by
          intro m_94
          induction m_94 using Nat.strongRecOn with
          | _ m_94 ih_94 =>
            intro i σl Sl hmeas_94 hi hAl hT hQ hpl
            have hI0 : INV n (BEG S f k n) := INV_beg hn
            have hIl : INV n Sl := hI0.trc hT
            refine w_iload (pc' := 96) (by rfl) dX5_add_94 rfl ?_
            refine w_sipush (pc' := 99) (by decide) (by decide) dX5_add_96 rfl ?_
            refine w_icmp_gt (pc' := 102) (t := 153) dX5_add_99 rfl rfl (fun c_99 => ?_) (fun c_99 => ?_)
            · skip
              have hfin : FIN Sl := Classical.byContradiction fun h => by have := hQ h; first | omega | exact h (Or.inl (by omega)) | exact h (Or.inr (by omega))
              refine w_aload_n (pc' := 154) (i := 0) (by rfl) (by rfl) dX5_add_153 rfl ?_
              refine v_getI (pc' := 157) (ji := 3) rfl fg_X5_40 kd_57 dX5_add_154 rfl ?_
              rw [(hAl).rd (k := 57) (i := 3) rfl]
              refine w_if_eq (pc' := 160) (t := 170) dX5_add_157 rfl rfl (fun c_157 => ?_) (fun c_157 => ?_)
              · skip
                refine w_aload_n (pc' := 171) (i := 0) (by rfl) (by rfl) dX5_add_170 rfl ?_
                refine w_dup (pc' := 172) dX5_add_171 rfl ?_
                refine v_getI (pc' := 175) (ji := 2) rfl fg_X5_36 kd_57 dX5_add_172 rfl ?_
                refine w_iconst (pc' := 176) (by decide) dX5_add_175 rfl ?_
                refine v_iadd (pc' := 177) (by have := hAl.fr (k := 57) (i := 2) ⟨by decide, by decide, by (rcases hc with h | h | h | h | h | h <;> omega), fun _ => by decide⟩; rw [hb2] at this; omega) dX5_add_176 rfl ?_
                refine v_putI (pc' := 180) (ji := 2) rfl fp_X5_36 kd_57 sf_X5_2 dX5_add_177 rfl ?_
                refine w_aload_n (pc' := 181) (i := 0) (by rfl) (by rfl) dX5_add_180 rfl ?_
                refine v_getM (pc' := 184) (q := c) (ji := 5) rfl fg_X5_29 kd_57 hAl.dr dX5_add_181 rfl ?_
                refine v_callVE (pc' := 187) (st' := [gI (Sl 68 2)]) (d' := 0) (av := []) mi_mX4_totalRules lk_X5_88 rfl ci_X4 hK.1 rfl (Nat.le_of_ble_eq_true rfl) (Nat.le_of_ble_eq_true rfl) dX5_add_184 rfl rfl (kx_rules hc hAl _) ?_
                refine v_ireturn rfl dX5_add_187 ?_
                rw [hb] at hAl hS
                rw [hS] at hT
                exact ⟨σl, Sl, hAl, ⟨_, hT⟩, hfin, Or.inr ⟨by omega, rfl, by rw [show σl 57 2 = σ 57 2 from (hAl.fr (k := 57) (i := 2) ⟨by decide, by decide, by (rcases hc with h | h | h | h | h | h <;> omega), fun _ => by decide⟩).trans (show gUp σ 57 5 (c : Int) 57 2 = σ 57 2 from rfl)]⟩⟩
              · skip
                refine w_iconst (pc' := 161) (by decide) dX5_add_160 rfl ?_
                refine w_aload_n (pc' := 162) (i := 0) (by rfl) (by rfl) dX5_add_161 rfl ?_
                refine w_getS (pc' := 165) (q := 66) fg_X5_25 kd_57 sf_X5_4 gr_57_4 dX5_add_162 rfl ?_
                refine v_callVE (pc' := 168) (st' := [gI (Sl 66 3), gI (-1)]) (d' := 0) (av := []) mi_mX10_place lk_X5_85 rfl ci_X10 kd_66 rfl (Nat.le_of_ble_eq_true rfl) (Nat.le_of_ble_eq_true rfl) dX5_add_165 rfl rfl (kc_place hc hAl ) ?_
                refine v_isub (pc' := 169) (by have := hpl (by omega); omega) dX5_add_168 rfl ?_
                refine v_ireturn rfl dX5_add_169 ?_
                rw [hb] at hAl hS
                rw [hS] at hT
                exact ⟨σl, Sl, hAl, ⟨_, hT⟩, hfin, Or.inl ⟨by omega, rfl, rfl⟩⟩
            · skip
              refine w_aload_n (pc' := 103) (i := 0) (by rfl) (by rfl) dX5_add_102 rfl ?_
              refine v_getI (pc' := 106) (ji := 3) rfl fg_X5_40 kd_57 dX5_add_103 rfl ?_
              rw [(hAl).rd (k := 57) (i := 3) rfl]
              refine w_if_ne (pc' := 109) (t := 153) dX5_add_106 rfl rfl (fun c_106 => ?_) (fun c_106 => ?_)
              · skip
                have hfin : FIN Sl := Classical.byContradiction fun h => by have := hQ h; first | omega | exact h (Or.inl (by omega)) | exact h (Or.inr (by omega))
                refine w_aload_n (pc' := 154) (i := 0) (by rfl) (by rfl) dX5_add_153 rfl ?_
                refine v_getI (pc' := 157) (ji := 3) rfl fg_X5_40 kd_57 dX5_add_154 rfl ?_
                rw [(hAl).rd (k := 57) (i := 3) rfl]
                refine w_if_eq (pc' := 160) (t := 170) dX5_add_157 rfl rfl (fun c_157 => ?_) (fun c_157 => ?_)
                · skip
                  refine w_aload_n (pc' := 171) (i := 0) (by rfl) (by rfl) dX5_add_170 rfl ?_
                  refine w_dup (pc' := 172) dX5_add_171 rfl ?_
                  refine v_getI (pc' := 175) (ji := 2) rfl fg_X5_36 kd_57 dX5_add_172 rfl ?_
                  refine w_iconst (pc' := 176) (by decide) dX5_add_175 rfl ?_
                  refine v_iadd (pc' := 177) (by have := hAl.fr (k := 57) (i := 2) ⟨by decide, by decide, by (rcases hc with h | h | h | h | h | h <;> omega), fun _ => by decide⟩; rw [hb2] at this; omega) dX5_add_176 rfl ?_
                  refine v_putI (pc' := 180) (ji := 2) rfl fp_X5_36 kd_57 sf_X5_2 dX5_add_177 rfl ?_
                  refine w_aload_n (pc' := 181) (i := 0) (by rfl) (by rfl) dX5_add_180 rfl ?_
                  refine v_getM (pc' := 184) (q := c) (ji := 5) rfl fg_X5_29 kd_57 hAl.dr dX5_add_181 rfl ?_
                  refine v_callVE (pc' := 187) (st' := [gI (Sl 68 2)]) (d' := 0) (av := []) mi_mX4_totalRules lk_X5_88 rfl ci_X4 hK.1 rfl (Nat.le_of_ble_eq_true rfl) (Nat.le_of_ble_eq_true rfl) dX5_add_184 rfl rfl (kx_rules hc hAl _) ?_
                  refine v_ireturn rfl dX5_add_187 ?_
                  rw [hb] at hAl hS
                  rw [hS] at hT
                  exact ⟨σl, Sl, hAl, ⟨_, hT⟩, hfin, Or.inr ⟨by omega, rfl, by rw [show σl 57 2 = σ 57 2 from (hAl.fr (k := 57) (i := 2) ⟨by decide, by decide, by (rcases hc with h | h | h | h | h | h <;> omega), fun _ => by decide⟩).trans (show gUp σ 57 5 (c : Int) 57 2 = σ 57 2 from rfl)]⟩⟩
                · skip
                  refine w_iconst (pc' := 161) (by decide) dX5_add_160 rfl ?_
                  refine w_aload_n (pc' := 162) (i := 0) (by rfl) (by rfl) dX5_add_161 rfl ?_
                  refine w_getS (pc' := 165) (q := 66) fg_X5_25 kd_57 sf_X5_4 gr_57_4 dX5_add_162 rfl ?_
                  refine v_callVE (pc' := 168) (st' := [gI (Sl 66 3), gI (-1)]) (d' := 0) (av := []) mi_mX10_place lk_X5_85 rfl ci_X10 kd_66 rfl (Nat.le_of_ble_eq_true rfl) (Nat.le_of_ble_eq_true rfl) dX5_add_165 rfl rfl (kc_place hc hAl ) ?_
                  refine v_isub (pc' := 169) (by have := hpl (by omega); omega) dX5_add_168 rfl ?_
                  refine v_ireturn rfl dX5_add_169 ?_
                  rw [hb] at hAl hS
                  rw [hS] at hT
                  exact ⟨σl, Sl, hAl, ⟨_, hT⟩, hfin, Or.inl ⟨by omega, rfl, rfl⟩⟩
              · skip
                refine w_aload_n (pc' := 110) (i := 0) (by rfl) (by rfl) dX5_add_109 rfl ?_
                refine v_getI (pc' := 113) (ji := 6) rfl fg_X5_63 kd_57 dX5_add_110 rfl ?_
                rw [(hAl).rd (k := 57) (i := 6) rfl]
                refine w_bipush (pc' := 115) (by decide) (by decide) dX5_add_113 rfl ?_
                refine w_icmp_eq (pc' := 118) (t := 153) dX5_add_115 rfl rfl (fun c_115 => ?_) (fun c_115 => ?_)
                · skip
                  have hfin : FIN Sl := Classical.byContradiction fun h => by have := hQ h; first | omega | exact h (Or.inl (by omega)) | exact h (Or.inr (by omega))
                  refine w_aload_n (pc' := 154) (i := 0) (by rfl) (by rfl) dX5_add_153 rfl ?_
                  refine v_getI (pc' := 157) (ji := 3) rfl fg_X5_40 kd_57 dX5_add_154 rfl ?_
                  rw [(hAl).rd (k := 57) (i := 3) rfl]
                  refine w_if_eq (pc' := 160) (t := 170) dX5_add_157 rfl rfl (fun c_157 => ?_) (fun c_157 => ?_)
                  · skip
                    refine w_aload_n (pc' := 171) (i := 0) (by rfl) (by rfl) dX5_add_170 rfl ?_
                    refine w_dup (pc' := 172) dX5_add_171 rfl ?_
                    refine v_getI (pc' := 175) (ji := 2) rfl fg_X5_36 kd_57 dX5_add_172 rfl ?_
                    refine w_iconst (pc' := 176) (by decide) dX5_add_175 rfl ?_
                    refine v_iadd (pc' := 177) (by have := hAl.fr (k := 57) (i := 2) ⟨by decide, by decide, by (rcases hc with h | h | h | h | h | h <;> omega), fun _ => by decide⟩; rw [hb2] at this; omega) dX5_add_176 rfl ?_
                    refine v_putI (pc' := 180) (ji := 2) rfl fp_X5_36 kd_57 sf_X5_2 dX5_add_177 rfl ?_
                    refine w_aload_n (pc' := 181) (i := 0) (by rfl) (by rfl) dX5_add_180 rfl ?_
                    refine v_getM (pc' := 184) (q := c) (ji := 5) rfl fg_X5_29 kd_57 hAl.dr dX5_add_181 rfl ?_
                    refine v_callVE (pc' := 187) (st' := [gI (Sl 68 2)]) (d' := 0) (av := []) mi_mX4_totalRules lk_X5_88 rfl ci_X4 hK.1 rfl (Nat.le_of_ble_eq_true rfl) (Nat.le_of_ble_eq_true rfl) dX5_add_184 rfl rfl (kx_rules hc hAl _) ?_
                    refine v_ireturn rfl dX5_add_187 ?_
                    rw [hb] at hAl hS
                    rw [hS] at hT
                    exact ⟨σl, Sl, hAl, ⟨_, hT⟩, hfin, Or.inr ⟨by omega, rfl, by rw [show σl 57 2 = σ 57 2 from (hAl.fr (k := 57) (i := 2) ⟨by decide, by decide, by (rcases hc with h | h | h | h | h | h <;> omega), fun _ => by decide⟩).trans (show gUp σ 57 5 (c : Int) 57 2 = σ 57 2 from rfl)]⟩⟩
                  · skip
                    refine w_iconst (pc' := 161) (by decide) dX5_add_160 rfl ?_
                    refine w_aload_n (pc' := 162) (i := 0) (by rfl) (by rfl) dX5_add_161 rfl ?_
                    refine w_getS (pc' := 165) (q := 66) fg_X5_25 kd_57 sf_X5_4 gr_57_4 dX5_add_162 rfl ?_
                    refine v_callVE (pc' := 168) (st' := [gI (Sl 66 3), gI (-1)]) (d' := 0) (av := []) mi_mX10_place lk_X5_85 rfl ci_X10 kd_66 rfl (Nat.le_of_ble_eq_true rfl) (Nat.le_of_ble_eq_true rfl) dX5_add_165 rfl rfl (kc_place hc hAl ) ?_
                    refine v_isub (pc' := 169) (by have := hpl (by omega); omega) dX5_add_168 rfl ?_
                    refine v_ireturn rfl dX5_add_169 ?_
                    rw [hb] at hAl hS
                    rw [hS] at hT
                    exact ⟨σl, Sl, hAl, ⟨_, hT⟩, hfin, Or.inl ⟨by omega, rfl, rfl⟩⟩
                · skip
                  have hf0 : Sl 57 3 = 0 := by omega
                  have hnf : ¬ FIN Sl := fun h => h.elim (fun h => h hf0) (fun h => by omega)
                  have hQ9 := hQ hnf
                  refine w_aload_n (pc' := 119) (i := 0) (by rfl) (by rfl) dX5_add_118 rfl ?_
                  refine w_getS (pc' := 122) (q := 66) fg_X5_25 kd_57 sf_X5_4 gr_57_4 dX5_add_119 rfl ?_
                  refine w_callV (pc' := 125) (d' := 7) (av := []) mi_mX10_advance lk_X5_72 rfl ci_X10 kd_66 rfl (Nat.le_of_ble_eq_true rfl) (Nat.le_of_ble_eq_true rfl) dX5_add_122 rfl (kc_advance hc hAl (by have B := (hIl hf0).1; exact B.1) (by have B := (hIl hf0).1.2.1; omega) (by have B := (hIl hf0).1; have e9 := EDG_le n; rw [B.2.1, B.2.2.1]; exact e9) (by have B := (hIl hf0).1.2.2.2.1; exact B)) (fun v_122 σ122 q_122 => ?_)
                  obtain ⟨a, q, k9, v9, rfl, hA_122, ht⟩ := q_122
                  show Wp _ _ _ _ _ _ []
                  have ht2 : TOKN (σ 1) n (EDG n) (Sl 66 4) a q k9 v9 := by
                    have B := (hIl hf0).1
                    rw [hb1, B.2.1, B.2.2.1] at ht
                    exact ht
                  have hIa := INV_adv (hIl hf0) ht2
                  have hti := TOKN_in (hIl hf0).1.2.2.2 ht2
                  have hIk := hti.2.2.2.1
                  refine w_aload_n (pc' := 126) (i := 0) (by rfl) (by rfl) dX5_add_125 rfl ?_
                  refine w_aload_n (pc' := 127) (i := 0) (by rfl) (by rfl) dX5_add_126 rfl ?_
                  refine w_aload_n (pc' := 128) (i := 0) (by rfl) (by rfl) dX5_add_127 rfl ?_
                  refine w_getS (pc' := 131) (q := 66) fg_X5_25 kd_57 sf_X5_4 gr_57_4 dX5_add_128 rfl ?_
                  refine v_callVE (pc' := 134) (st' := [gI k9, gR 57, gR 57]) (d' := 0) (av := []) mi_mX10_kind lk_X5_75 rfl ci_X10 kd_66 rfl (Nat.le_of_ble_eq_true rfl) (Nat.le_of_ble_eq_true rfl) dX5_add_131 rfl rfl (kc_kind hc hA_122 ) ?_
                  refine w_aload_n (pc' := 135) (i := 0) (by rfl) (by rfl) dX5_add_134 rfl ?_
                  refine w_getS (pc' := 138) (q := 66) fg_X5_25 kd_57 sf_X5_4 gr_57_4 dX5_add_135 rfl ?_
                  refine v_callVE (pc' := 141) (st' := [gI v9, gI k9, gR 57, gR 57]) (d' := 0) (av := []) mi_mX10_value lk_X5_78 rfl ci_X10 kd_66 rfl (Nat.le_of_ble_eq_true rfl) (Nat.le_of_ble_eq_true rfl) dX5_add_138 rfl rfl (kc_value hc hA_122 ) ?_
                  refine w_callV (pc' := 144) (d' := 4) (av := [gI k9, gI v9]) mi_mX5_take lk_X5_81 rfl ci_X5 kd_57 rfl (Nat.le_of_ble_eq_true rfl) (Nat.le_of_ble_eq_true rfl) dX5_add_141 rfl (kt_take hc hA_122 (hIa).1 k9 v9 (hIk)) (fun v_141 σ141 q_141 => ?_)
                  obtain ⟨rfl, hA_141⟩ := q_141
                  show Wp _ _ _ _ _ _ [gI ((TAK (ADV Sl a q k9 v9) k9 v9).2), gR 57]
                  refine v_putI (pc' := 147) (ji := 3) rfl fp_X5_40 kd_57 sf_X5_3 dX5_add_144 rfl ?_
                  have hA150 : AG c σb (gUp σ141 57 3 ((TAK (ADV Sl a q k9 v9) k9 v9).2)) (NXT Sl a q k9 v9) := (AG.u57 hc hA_141 rfl)
                  have hT150 : TRC (σ 1) n (i + 1).toNat (BEG S f k n) (NXT Sl a q k9 v9) := by
                    rw [show (i + 1).toNat = i.toNat + 1 by omega]
                    exact ⟨Sl, hT, hnf, a, q, k9, v9, ht2, rfl⟩
                  have hE9 := EDG_in n
                  have hQ150 : ¬ FIN (NXT Sl a q k9 v9) → i + 1 ≤ (NXT Sl a q k9 v9) 66 4 ∧ i + 1 ≤ 500 := fun h => by
                    have hk0 : k9 ≠ 0 := fun e => h (TAK_end e)
                    have := hti.2.2.1 hk0
                    rw [NXT_66]
                    omega
                  have hP150 : (NXT Sl a q k9 v9) 57 3 ≠ 0 → 0 ≤ (NXT Sl a q k9 v9) 66 3 ∧ (NXT Sl a q k9 v9) 66 3 ≤ 540 := fun _ => by
                    rw [NXT_66a]
                    exact TOKN_pl (hIl hf0).1.2.2.2.1 hn ht2
                  refine v_iinc (pc' := 150) (x := i) (ls' := [gR 57, gI f, gI k, gR 1, gI n, gI (i + 1)]) (by omega) (by decide) (by rfl) (by rfl) dX5_add_147 rfl ?_
                  refine w_goto (pc' := 94) dX5_add_150 rfl ?_
                  exact ih_94 _ (by omega) (i + 1) (gUp σ141 57 3 ((TAK (ADV Sl a q k9 v9) k9 v9).2)) (gUp ((TAK (ADV Sl a q k9 v9) k9 v9).1) 57 3 ((TAK (ADV Sl a q k9 v9) k9 v9).2)) rfl (by omega) (by exact hA150) (by exact hT150) (by exact hQ150) (by exact hP150)
        exact hl_94 _ 0 (gUp (gUp (gUp (gUp σ68 57 3 0) 57 6 0) 57 7 0) 57 13 0) (gUp (gUp (gUp (gUp (OPN (LCR S f k) n) 57 3 0) 57 6 0) 57 7 0) 57 13 0) rfl (by omega) (by exact hA94) (by exact rfl) (by intro _; exact ⟨Int.le_refl _, by decide⟩) (by intro h; exact absurd rfl h)
      · skip
        refine w_sipush (pc' := 38) (by decide) (by decide) dX5_add_35 rfl ?_
        refine v_ireturn rfl dX5_add_38 ?_
        exfalso; omega
theorem kt_addN {c : Nat} {σ : gH} (hc : isD c) (hn2 : 0 ≤ σ 57 2 ∧ σ 57 2 ≤ 6) (hcn : σ 57 2 < 6 → σ 58 (σ 57 2) = (c : Int)) (f k n : Int) (hf : ¬ (σ 57 2 < 6 ∧ isDy f)) : Mt mX5_add 10 [gR 57, gI f, gI k, gR 1, gI n] σ (rE (gI (-1000)) σ) := by
  refine Mt.walk (ls := [gR 57, gI f, gI k, gR 1, gI n, gX 1]) pn_X5 rfl (fun _ _ h => by cases h.1) (Nat.le_of_ble_eq_true rfl) rfl ?_
  have hK := (isD_lw hc).1
  unfold isDy at hf
  refine w_aload_n (pc' := 1) (i := 0) (by rfl) (by rfl) dX5_add_0 rfl ?_
  refine v_getI (pc' := 4) (ji := 2) rfl fg_X5_36 kd_57 dX5_add_1 rfl ?_
  refine w_if_lt (pc' := 7) (t := 35) dX5_add_4 rfl rfl (fun c_4 => ?_) (fun c_4 => ?_)
  · skip
    refine w_sipush (pc' := 38) (by decide) (by decide) dX5_add_35 rfl ?_
    refine v_ireturn rfl dX5_add_38 ?_
    first | (exfalso; omega) | exact ⟨rfl, rfl⟩
  · skip
    refine w_aload_n (pc' := 8) (i := 0) (by rfl) (by rfl) dX5_add_7 rfl ?_
    refine v_getI (pc' := 11) (ji := 2) rfl fg_X5_36 kd_57 dX5_add_8 rfl ?_
    refine w_bipush (pc' := 13) (by decide) (by decide) dX5_add_11 rfl ?_
    refine w_icmp_ge (pc' := 16) (t := 35) dX5_add_13 rfl rfl (fun c_13 => ?_) (fun c_13 => ?_)
    · skip
      refine w_sipush (pc' := 38) (by decide) (by decide) dX5_add_35 rfl ?_
      refine v_ireturn rfl dX5_add_38 ?_
      first | (exfalso; omega) | exact ⟨rfl, rfl⟩
    · skip
      refine w_aload_n (pc' := 17) (i := 0) (by rfl) (by rfl) dX5_add_16 rfl ?_
      refine w_getS (pc' := 20) (q := 58) fg_X5_13 kd_57 sf_X5_0 gr_57_0 dX5_add_17 rfl ?_
      refine w_aload_n (pc' := 21) (i := 0) (by rfl) (by rfl) dX5_add_20 rfl ?_
      refine v_getI (pc' := 24) (ji := 2) rfl fg_X5_36 kd_57 dX5_add_21 rfl ?_
      refine w_aald (pc' := 25) (q := c) kd_58 (by omega) (by omega) (hcn (by omega)) dX5_add_24 rfl ?_
      refine w_ifnull (pc' := 28) dX5_add_25 rfl ?_
      refine w_iload_n (pc' := 29) (i := 1) (by rfl) (by rfl) dX5_add_28 rfl ?_
      refine v_callSEN (pc' := 32) (st' := [gI (gb (0 ≤ f ∧ f ≤ 9999))]) (d' := 0) (av := [gI f]) ms_mX11_isDay st_mX11_isDay ln_X5_51 rfl rfl (Nat.le_of_ble_eq_true rfl) (Nat.le_of_ble_eq_true rfl) dX5_add_29 rfl rfl (cl_isDay σ f) ?_
      refine v_if_neB (pc' := 35) (t := 39) dX5_add_32 rfl rfl (fun c_32 => ?_) (fun c_32 => ?_)
      · skip
        exfalso; omega
      · skip
        refine w_sipush (pc' := 38) (by decide) (by decide) dX5_add_35 rfl ?_
        refine v_ireturn rfl dX5_add_38 ?_
        first | (exfalso; omega) | exact ⟨rfl, rfl⟩
