/-! the gift call: class and reference (gen/mod_gift2.py) -/
theorem g_describe (σ : gH) (hz : 0 ≤ σ 41 11 ∧ σ 41 11 ≤ 120 ∧ 0 ≤ σ 41 16 ∧ σ 41 16 ≤ 200) (g f a b : Int) (hf : f = 0 ∨ f = 1) : Mt mX2_describe 1 [gR 41, gI g, gI f, gI a, gI b] σ (rE (gX 1) (if 0 ≤ g ∧ g < σ 41 11 then gUp (gUp (gUp σ 46 g f) 47 g a) 48 g b else σ)) := by
  refine Mt.walk (ls := [gR 41, gI g, gI f, gI a, gI b]) pn_X2 rfl (fun _ _ h => by cases h.1) (Nat.le_of_ble_eq_true rfl) rfl ?_
  refine w_aload_n (pc' := 1) (i := 0) (by rfl) (by rfl) dX2_describe_0 rfl ?_
  refine w_iload_n (pc' := 2) (i := 1) (by rfl) (by rfl) dX2_describe_1 rfl ?_
  refine v_callVE (pc' := 5) (st' := [gI (gb (0 ≤ g ∧ g < σ 41 11))]) (d' := 0) (av := [gI g]) mi_mX2_has lk_X2_62 rfl ci_X2 kd_41 rfl (Nat.le_of_ble_eq_true rfl) (Nat.le_of_ble_eq_true rfl) dX2_describe_2 rfl rfl (g_has σ hz g) ?_
  refine v_if_eqB (pc' := 8) (t := 30) dX2_describe_5 rfl rfl (fun c_5 => ?_) (fun c_5 => ?_)
  · skip
    refine w_return rfl dX2_describe_30 ?_
    by_cases hP : 0 ≤ g ∧ g < σ 41 11
    · first | (exfalso; omega) | exact ⟨rfl, (if_pos hP).symm⟩
    · first | (exfalso; omega) | exact ⟨rfl, (if_neg hP).symm⟩
  · skip
    refine w_aload_n (pc' := 9) (i := 0) (by rfl) (by rfl) dX2_describe_8 rfl ?_
    refine w_getS (pc' := 12) (q := 46) fg_X2_24 kd_41 sf_X2_4 gr_41_4 dX2_describe_9 rfl ?_
    refine w_iload_n (pc' := 13) (i := 1) (by rfl) (by rfl) dX2_describe_12 rfl ?_
    refine w_iload_n (pc' := 14) (i := 2) (by rfl) (by rfl) dX2_describe_13 rfl ?_
    refine w_zast (pc' := 15) kd_46 (by exact hf) (by omega) (by omega) dX2_describe_14 rfl ?_
    refine w_aload_n (pc' := 16) (i := 0) (by rfl) (by rfl) dX2_describe_15 rfl ?_
    refine w_getS (pc' := 19) (q := 47) fg_X2_28 kd_41 sf_X2_5 gr_41_5 dX2_describe_16 rfl ?_
    refine w_iload_n (pc' := 20) (i := 1) (by rfl) (by rfl) dX2_describe_19 rfl ?_
    refine w_iload_n (pc' := 21) (i := 3) (by rfl) (by rfl) dX2_describe_20 rfl ?_
    refine w_iast (pc' := 22) kd_47 (by omega) (by omega) dX2_describe_21 rfl ?_
    refine w_aload_n (pc' := 23) (i := 0) (by rfl) (by rfl) dX2_describe_22 rfl ?_
    refine w_getS (pc' := 26) (q := 48) fg_X2_31 kd_41 sf_X2_6 gr_41_6 dX2_describe_23 rfl ?_
    refine w_iload_n (pc' := 27) (i := 1) (by rfl) (by rfl) dX2_describe_26 rfl ?_
    refine w_iload (pc' := 29) (by rfl) dX2_describe_27 rfl ?_
    refine w_iast (pc' := 30) kd_48 (by omega) (by omega) dX2_describe_29 rfl ?_
    refine w_return rfl dX2_describe_30 ?_
    by_cases hP : 0 ≤ g ∧ g < σ 41 11
    · first | (exfalso; omega) | exact ⟨rfl, (if_pos hP).symm⟩
    · first | (exfalso; omega) | exact ⟨rfl, (if_neg hP).symm⟩
theorem m_gift (σ : gH) (hm : 0 ≤ σ 133 42 ∧ σ 133 42 ≤ 120) (hp : σ 133 6 ≤ 60) (a b k d f l m : Int) (hf : f = 0 ∨ f = 1) : Mt mX12_gift 30 [gR 133, gI a, gI b, gI k, gI d, gI f, gI l, gI m] σ (rE (gI (if ((0 ≤ a ∧ a < σ 133 6) ∧ (0 ≤ b ∧ b < σ 133 6) ∧ σ 135 b = 0) ∧ a ≠ b then if (0 ≤ k ∧ k ≤ 3) ∧ 0 ≤ d ∧ d ≤ 9999 then if 0 ≤ l ∧ l ≤ m ∧ m ≤ 1000000 then if σ 133 42 ≠ 120 then σ 133 42 else -5 else -4 else -3 else -2)) (if ((((0 ≤ a ∧ a < σ 133 6) ∧ (0 ≤ b ∧ b < σ 133 6) ∧ σ 135 b = 0) ∧ a ≠ b) ∧ ((0 ≤ k ∧ k ≤ 3) ∧ 0 ≤ d ∧ d ≤ 9999)) ∧ (0 ≤ l ∧ l ≤ m ∧ m ≤ 1000000) ∧ σ 133 42 ≠ 120 then gUp (gUp (gUp (gUp (gUp (gUp (gUp (gUp (gUp (gUp (gUp (gUp σ 133 0 0) 153 (σ 133 42) a) 154 (σ 133 42) b) 155 (σ 133 42) k) 156 (σ 133 42) d) 163 (σ 133 42) f) 157 (σ 133 42) l) 158 (σ 133 42) m) 159 (σ 133 42) (σ 133 3)) 160 (σ 133 42) (-1)) 162 (σ 133 42) (-1)) 133 42 (σ 133 42 + 1) else gUp σ 133 0 0)) := by
  refine Mt.walk (ls := [gR 133, gI a, gI b, gI k, gI d, gI f, gI l, gI m]) pn_X12 rfl (fun _ _ h => by cases h.1) (Nat.le_of_ble_eq_true rfl) rfl ?_
  refine w_aload_n (pc' := 1) (i := 0) (by rfl) (by rfl) dX12_gift_0 rfl ?_
  refine w_iconst (pc' := 2) (by decide) dX12_gift_1 rfl ?_
  refine v_putI (pc' := 5) (ji := 0) rfl fp_X12_244 kd_133 sf_X12_0 dX12_gift_2 rfl ?_
  refine w_aload_n (pc' := 6) (i := 0) (by rfl) (by rfl) dX12_gift_5 rfl ?_
  refine w_iload_n (pc' := 7) (i := 1) (by rfl) (by rfl) dX12_gift_6 rfl ?_
  refine v_callVE (pc' := 10) (st' := [gI (gb (0 ≤ a ∧ a < (σ 133 6)))]) (d' := 0) (av := [gI a]) mi_mX12_isParty lk_X12_276 rfl ci_X12 kd_133 rfl (Nat.le_of_ble_eq_true rfl) (Nat.le_of_ble_eq_true rfl) dX12_gift_7 rfl rfl (mo_isParty (gUp σ 133 0 0)  a) ?_
  refine v_if_eqB (pc' := 13) (t := 26) dX12_gift_10 rfl rfl (fun c_10 => ?_) (fun c_10 => ?_)
  · skip
    refine w_bipush (pc' := 28) (by decide) (by decide) dX12_gift_26 rfl ?_
    refine v_ireturn rfl dX12_gift_28 ?_
    exact ⟨by rw [if_neg (by omega)], (if_neg (by omega)).symm⟩
  · skip
    refine w_aload_n (pc' := 14) (i := 0) (by rfl) (by rfl) dX12_gift_13 rfl ?_
    refine w_iload_n (pc' := 15) (i := 2) (by rfl) (by rfl) dX12_gift_14 rfl ?_
    refine v_callVE (pc' := 18) (st' := [gI (gb ((0 ≤ b ∧ b < (σ 133 6)) ∧ (σ 135 b) = 0))]) (d' := 1) (av := [gI b]) mi_mX12_isPerson lk_X12_299 rfl ci_X12 kd_133 rfl (Nat.le_of_ble_eq_true rfl) (Nat.le_of_ble_eq_true rfl) dX12_gift_15 rfl rfl (mo_isPerson (gUp σ 133 0 0) (by first | exact hp | omega) b) ?_
    refine v_if_eqB (pc' := 21) (t := 26) dX12_gift_18 rfl rfl (fun c_18 => ?_) (fun c_18 => ?_)
    · skip
      refine w_bipush (pc' := 28) (by decide) (by decide) dX12_gift_26 rfl ?_
      refine v_ireturn rfl dX12_gift_28 ?_
      exact ⟨by rw [if_neg (by omega)], (if_neg (by omega)).symm⟩
    · skip
      refine w_iload_n (pc' := 22) (i := 1) (by rfl) (by rfl) dX12_gift_21 rfl ?_
      refine w_iload_n (pc' := 23) (i := 2) (by rfl) (by rfl) dX12_gift_22 rfl ?_
      refine w_icmp_ne (pc' := 26) (t := 29) dX12_gift_23 rfl rfl (fun c_23 => ?_) (fun c_23 => ?_)
      · skip
        refine w_iload_n (pc' := 30) (i := 3) (by rfl) (by rfl) dX12_gift_29 rfl ?_
        refine w_iconst (pc' := 31) (by decide) dX12_gift_30 rfl ?_
        refine w_iconst (pc' := 32) (by decide) dX12_gift_31 rfl ?_
        refine v_callSE (pc' := 35) (st' := [gI (gb (0 ≤ k ∧ k ≤ 3))]) (d' := 0) (av := [gI k, gI 0, gI 3]) ms_mX12_isIn st_mX12_isIn lk_X12_254 rfl rfl (Nat.le_of_ble_eq_true rfl) (Nat.le_of_ble_eq_true rfl) dX12_gift_32 rfl rfl (mo_isIn (gUp σ 133 0 0) k 0 3) ?_
        refine v_if_eqB (pc' := 38) (t := 46) dX12_gift_35 rfl rfl (fun c_35 => ?_) (fun c_35 => ?_)
        · skip
          refine w_bipush (pc' := 48) (by decide) (by decide) dX12_gift_46 rfl ?_
          refine v_ireturn rfl dX12_gift_48 ?_
          exact ⟨by rw [if_pos (by omega), if_neg (by omega)], (if_neg (by omega)).symm⟩
        · skip
          refine w_iload (pc' := 40) (by rfl) dX12_gift_38 rfl ?_
          refine v_callSE (pc' := 43) (st' := [gI (gb (0 ≤ d ∧ d ≤ 9999))]) (d' := 0) (av := [gI d]) ms_mX12_isDay st_mX12_isDay lk_X12_279 rfl rfl (Nat.le_of_ble_eq_true rfl) (Nat.le_of_ble_eq_true rfl) dX12_gift_40 rfl rfl (mo_isDay (gUp σ 133 0 0) d) ?_
          refine v_if_neB (pc' := 46) (t := 49) dX12_gift_43 rfl rfl (fun c_43 => ?_) (fun c_43 => ?_)
          · skip
            refine w_iload (pc' := 51) (by rfl) dX12_gift_49 rfl ?_
            refine w_iload (pc' := 53) (by rfl) dX12_gift_51 rfl ?_
            refine v_callSE (pc' := 56) (st' := [gI (gb (0 ≤ l ∧ l ≤ m ∧ m ≤ 1000000))]) (d' := 0) (av := [gI l, gI m]) ms_mX12_isWorth st_mX12_isWorth lk_X12_309 rfl rfl (Nat.le_of_ble_eq_true rfl) (Nat.le_of_ble_eq_true rfl) dX12_gift_53 rfl rfl (mo_isWorth (gUp σ 133 0 0) l m) ?_
            refine v_if_neB (pc' := 59) (t := 62) dX12_gift_56 rfl rfl (fun c_56 => ?_) (fun c_56 => ?_)
            · skip
              refine w_aload_n (pc' := 63) (i := 0) (by rfl) (by rfl) dX12_gift_62 rfl ?_
              refine v_getI (pc' := 66) (ji := 42) rfl fg_X12_313 kd_133 dX12_gift_63 rfl ?_
              show Wp _ _ _ _ _ _ [gI (σ 133 42)]
              refine w_bipush (pc' := 68) (by decide) (by decide) dX12_gift_66 rfl ?_
              refine w_icmp_ne (pc' := 71) (t := 74) dX12_gift_68 rfl rfl (fun c_68 => ?_) (fun c_68 => ?_)
              · skip
                refine w_aload_n (pc' := 75) (i := 0) (by rfl) (by rfl) dX12_gift_74 rfl ?_
                refine w_getS (pc' := 78) (q := 153) fg_X12_72 kd_133 sf_X12_27 gr_133_27 dX12_gift_75 rfl ?_
                refine w_aload_n (pc' := 79) (i := 0) (by rfl) (by rfl) dX12_gift_78 rfl ?_
                refine v_getI (pc' := 82) (ji := 42) rfl fg_X12_313 kd_133 dX12_gift_79 rfl ?_
                show Wp _ _ _ _ _ _ [gI (σ 133 42), gR 153]
                refine w_iload_n (pc' := 83) (i := 1) (by rfl) (by rfl) dX12_gift_82 rfl ?_
                refine w_iast (pc' := 84) kd_153 (by omega) (by omega) dX12_gift_83 rfl ?_
                refine w_aload_n (pc' := 85) (i := 0) (by rfl) (by rfl) dX12_gift_84 rfl ?_
                refine w_getS (pc' := 88) (q := 154) fg_X12_75 kd_133 sf_X12_28 gr_133_28 dX12_gift_85 rfl ?_
                refine w_aload_n (pc' := 89) (i := 0) (by rfl) (by rfl) dX12_gift_88 rfl ?_
                refine v_getI (pc' := 92) (ji := 42) rfl fg_X12_313 kd_133 dX12_gift_89 rfl ?_
                show Wp _ _ _ _ _ _ [gI (σ 133 42), gR 154]
                refine w_iload_n (pc' := 93) (i := 2) (by rfl) (by rfl) dX12_gift_92 rfl ?_
                refine w_iast (pc' := 94) kd_154 (by omega) (by omega) dX12_gift_93 rfl ?_
                refine w_aload_n (pc' := 95) (i := 0) (by rfl) (by rfl) dX12_gift_94 rfl ?_
                refine w_getS (pc' := 98) (q := 155) fg_X12_78 kd_133 sf_X12_29 gr_133_29 dX12_gift_95 rfl ?_
                refine w_aload_n (pc' := 99) (i := 0) (by rfl) (by rfl) dX12_gift_98 rfl ?_
                refine v_getI (pc' := 102) (ji := 42) rfl fg_X12_313 kd_133 dX12_gift_99 rfl ?_
                show Wp _ _ _ _ _ _ [gI (σ 133 42), gR 155]
                refine w_iload_n (pc' := 103) (i := 3) (by rfl) (by rfl) dX12_gift_102 rfl ?_
                refine w_iast (pc' := 104) kd_155 (by omega) (by omega) dX12_gift_103 rfl ?_
                refine w_aload_n (pc' := 105) (i := 0) (by rfl) (by rfl) dX12_gift_104 rfl ?_
                refine w_getS (pc' := 108) (q := 156) fg_X12_81 kd_133 sf_X12_30 gr_133_30 dX12_gift_105 rfl ?_
                refine w_aload_n (pc' := 109) (i := 0) (by rfl) (by rfl) dX12_gift_108 rfl ?_
                refine v_getI (pc' := 112) (ji := 42) rfl fg_X12_313 kd_133 dX12_gift_109 rfl ?_
                show Wp _ _ _ _ _ _ [gI (σ 133 42), gR 156]
                refine w_iload (pc' := 114) (by rfl) dX12_gift_112 rfl ?_
                refine w_iast (pc' := 115) kd_156 (by omega) (by omega) dX12_gift_114 rfl ?_
                refine w_aload_n (pc' := 116) (i := 0) (by rfl) (by rfl) dX12_gift_115 rfl ?_
                refine w_getS (pc' := 119) (q := 163) fg_X12_102 kd_133 sf_X12_37 gr_133_37 dX12_gift_116 rfl ?_
                refine w_aload_n (pc' := 120) (i := 0) (by rfl) (by rfl) dX12_gift_119 rfl ?_
                refine v_getI (pc' := 123) (ji := 42) rfl fg_X12_313 kd_133 dX12_gift_120 rfl ?_
                show Wp _ _ _ _ _ _ [gI (σ 133 42), gR 163]
                refine w_iload (pc' := 125) (by rfl) dX12_gift_123 rfl ?_
                refine w_zast (pc' := 126) kd_163 (by exact hf) (by omega) (by omega) dX12_gift_125 rfl ?_
                refine w_aload_n (pc' := 127) (i := 0) (by rfl) (by rfl) dX12_gift_126 rfl ?_
                refine w_getS (pc' := 130) (q := 157) fg_X12_84 kd_133 sf_X12_31 gr_133_31 dX12_gift_127 rfl ?_
                refine w_aload_n (pc' := 131) (i := 0) (by rfl) (by rfl) dX12_gift_130 rfl ?_
                refine v_getI (pc' := 134) (ji := 42) rfl fg_X12_313 kd_133 dX12_gift_131 rfl ?_
                show Wp _ _ _ _ _ _ [gI (σ 133 42), gR 157]
                refine w_iload (pc' := 136) (by rfl) dX12_gift_134 rfl ?_
                refine w_iast (pc' := 137) kd_157 (by omega) (by omega) dX12_gift_136 rfl ?_
                refine w_aload_n (pc' := 138) (i := 0) (by rfl) (by rfl) dX12_gift_137 rfl ?_
                refine w_getS (pc' := 141) (q := 158) fg_X12_87 kd_133 sf_X12_32 gr_133_32 dX12_gift_138 rfl ?_
                refine w_aload_n (pc' := 142) (i := 0) (by rfl) (by rfl) dX12_gift_141 rfl ?_
                refine v_getI (pc' := 145) (ji := 42) rfl fg_X12_313 kd_133 dX12_gift_142 rfl ?_
                show Wp _ _ _ _ _ _ [gI (σ 133 42), gR 158]
                refine w_iload (pc' := 147) (by rfl) dX12_gift_145 rfl ?_
                refine w_iast (pc' := 148) kd_158 (by omega) (by omega) dX12_gift_147 rfl ?_
                refine w_aload_n (pc' := 149) (i := 0) (by rfl) (by rfl) dX12_gift_148 rfl ?_
                refine w_getS (pc' := 152) (q := 159) fg_X12_90 kd_133 sf_X12_33 gr_133_33 dX12_gift_149 rfl ?_
                refine w_aload_n (pc' := 153) (i := 0) (by rfl) (by rfl) dX12_gift_152 rfl ?_
                refine v_getI (pc' := 156) (ji := 42) rfl fg_X12_313 kd_133 dX12_gift_153 rfl ?_
                show Wp _ _ _ _ _ _ [gI (σ 133 42), gR 159]
                refine w_aload_n (pc' := 157) (i := 0) (by rfl) (by rfl) dX12_gift_156 rfl ?_
                refine v_getI (pc' := 160) (ji := 3) rfl fg_X12_258 kd_133 dX12_gift_157 rfl ?_
                show Wp _ _ _ _ _ _ [gI (σ 133 3), gI (σ 133 42), gR 159]
                refine w_iast (pc' := 161) kd_159 (by omega) (by omega) dX12_gift_160 rfl ?_
                refine w_aload_n (pc' := 162) (i := 0) (by rfl) (by rfl) dX12_gift_161 rfl ?_
                refine w_getS (pc' := 165) (q := 160) fg_X12_93 kd_133 sf_X12_34 gr_133_34 dX12_gift_162 rfl ?_
                refine w_aload_n (pc' := 166) (i := 0) (by rfl) (by rfl) dX12_gift_165 rfl ?_
                refine v_getI (pc' := 169) (ji := 42) rfl fg_X12_313 kd_133 dX12_gift_166 rfl ?_
                show Wp _ _ _ _ _ _ [gI (σ 133 42), gR 160]
                refine w_iconst (pc' := 170) (by decide) dX12_gift_169 rfl ?_
                refine w_iast (pc' := 171) kd_160 (by omega) (by omega) dX12_gift_170 rfl ?_
                refine w_aload_n (pc' := 172) (i := 0) (by rfl) (by rfl) dX12_gift_171 rfl ?_
                refine w_getS (pc' := 175) (q := 162) fg_X12_99 kd_133 sf_X12_36 gr_133_36 dX12_gift_172 rfl ?_
                refine w_aload_n (pc' := 176) (i := 0) (by rfl) (by rfl) dX12_gift_175 rfl ?_
                refine v_getI (pc' := 179) (ji := 42) rfl fg_X12_313 kd_133 dX12_gift_176 rfl ?_
                show Wp _ _ _ _ _ _ [gI (σ 133 42), gR 162]
                refine w_iconst (pc' := 180) (by decide) dX12_gift_179 rfl ?_
                refine w_iast (pc' := 181) kd_162 (by omega) (by omega) dX12_gift_180 rfl ?_
                refine w_aload_n (pc' := 182) (i := 0) (by rfl) (by rfl) dX12_gift_181 rfl ?_
                refine w_dup (pc' := 183) dX12_gift_182 rfl ?_
                refine v_getI (pc' := 186) (ji := 42) rfl fg_X12_313 kd_133 dX12_gift_183 rfl ?_
                show Wp _ _ _ _ _ _ [gI (σ 133 42), gR 133]
                refine w_iconst (pc' := 187) (by decide) dX12_gift_186 rfl ?_
                refine v_iadd (pc' := 188) (by omega) dX12_gift_187 rfl ?_
                refine v_putI (pc' := 191) (ji := 42) rfl fp_X12_313 kd_133 sf_X12_42 dX12_gift_188 rfl ?_
                refine w_aload_n (pc' := 192) (i := 0) (by rfl) (by rfl) dX12_gift_191 rfl ?_
                refine v_getI (pc' := 195) (ji := 42) rfl fg_X12_313 kd_133 dX12_gift_192 rfl ?_
                show Wp _ _ _ _ _ _ [gI ((σ 133 42) + 1)]
                refine w_iconst (pc' := 196) (by decide) dX12_gift_195 rfl ?_
                refine v_isub (pc' := 197) (by omega) dX12_gift_196 rfl ?_
                refine v_ireturn rfl dX12_gift_197 ?_
                exact ⟨by rw [if_pos (by omega), if_pos (by omega), if_pos (by omega), if_pos (by omega)]; congr 1; omega, (if_pos (by omega)).symm⟩
              · skip
                refine w_bipush (pc' := 73) (by decide) (by decide) dX12_gift_71 rfl ?_
                refine v_ireturn rfl dX12_gift_73 ?_
                exact ⟨by rw [if_pos (by omega), if_pos (by omega), if_pos (by omega), if_neg (by omega)], (if_neg (by omega)).symm⟩
            · skip
              refine w_bipush (pc' := 61) (by decide) (by decide) dX12_gift_59 rfl ?_
              refine v_ireturn rfl dX12_gift_61 ?_
              exact ⟨by rw [if_pos (by omega), if_pos (by omega), if_neg (by omega)], (if_neg (by omega)).symm⟩
          · skip
            refine w_bipush (pc' := 48) (by decide) (by decide) dX12_gift_46 rfl ?_
            refine v_ireturn rfl dX12_gift_48 ?_
            exact ⟨by rw [if_pos (by omega), if_neg (by omega)], (if_neg (by omega)).symm⟩
      · skip
        refine w_bipush (pc' := 28) (by decide) (by decide) dX12_gift_26 rfl ?_
        refine v_ireturn rfl dX12_gift_28 ?_
        exact ⟨by rw [if_neg (by omega)], (if_neg (by omega)).symm⟩
theorem x_gift (σ : gH) (hz : 0 ≤ σ 41 11 ∧ σ 41 11 ≤ 120 ∧ 0 ≤ σ 41 16 ∧ σ 41 16 ≤ 200) (hp : σ 3 2 ≤ 60) (a b k d f l m : Int) (hf : f = 0 ∨ f = 1) : Mt mX11_gift 30 [gR 0, gI a, gI b, gI k, gI d, gI f, gI l, gI m] σ (rE (gI (if ((0 ≤ a ∧ a < σ 3 2) ∧ (0 ≤ b ∧ b < σ 3 2) ∧ σ 4 b = 0) ∧ a ≠ b then if (0 ≤ k ∧ k ≤ 3) ∧ 0 ≤ d ∧ d ≤ 9999 then if 0 ≤ l ∧ l ≤ m ∧ m ≤ 1000000 then if σ 41 11 < 120 then σ 41 11 else -5 else -4 else -3 else -2)) (if ((((0 ≤ a ∧ a < σ 3 2) ∧ (0 ≤ b ∧ b < σ 3 2) ∧ σ 4 b = 0) ∧ a ≠ b) ∧ ((0 ≤ k ∧ k ≤ 3) ∧ 0 ≤ d ∧ d ≤ 9999)) ∧ (0 ≤ l ∧ l ≤ m ∧ m ≤ 1000000) ∧ σ 41 11 < 120 then gUp (gUp (gUp (gUp (gUp (gUp (gUp (gUp (gUp (gUp (gUp σ 42 (σ 41 11) a) 43 (σ 41 11) b) 44 (σ 41 11) k) 45 (σ 41 11) d) 49 (σ 41 11) (σ 0 4)) 50 (σ 41 11) (-1)) 52 (σ 41 11) (-1)) 41 11 (σ 41 11 + 1)) 46 (σ 41 11) f) 47 (σ 41 11) l) 48 (σ 41 11) m else σ)) := by
  refine Mt.walk (ls := [gR 0, gI a, gI b, gI k, gI d, gI f, gI l, gI m, gX 1]) pn_X11 rfl (fun _ _ h => by cases h.1) (Nat.le_of_ble_eq_true rfl) rfl ?_
  refine w_aload_n (pc' := 1) (i := 0) (by rfl) (by rfl) dX11_gift_0 rfl ?_
  refine w_getS (pc' := 4) (q := 3) fg_X11_21 kd_0 sf_X11_5 gr_0_5 dX11_gift_1 rfl ?_
  refine w_iload_n (pc' := 5) (i := 1) (by rfl) (by rfl) dX11_gift_4 rfl ?_
  refine v_callVE (pc' := 8) (st' := [gI (gb (0 ≤ a ∧ a < (σ 3 2)))]) (d' := 0) (av := [gI a]) mi_mX8_has lk_X11_111 rfl ci_X8 kd_3 rfl (Nat.le_of_ble_eq_true rfl) (Nat.le_of_ble_eq_true rfl) dX11_gift_5 rfl rfl (pa_has σ (by first | exact hp | omega) a) ?_
  refine v_if_eqB (pc' := 11) (t := 27) dX11_gift_8 rfl rfl (fun c_8 => ?_) (fun c_8 => ?_)
  · skip
    refine w_bipush (pc' := 29) (by decide) (by decide) dX11_gift_27 rfl ?_
    refine v_ireturn rfl dX11_gift_29 ?_
    exact ⟨by rw [if_neg (by omega)], (if_neg (by omega)).symm⟩
  · skip
    refine w_aload_n (pc' := 12) (i := 0) (by rfl) (by rfl) dX11_gift_11 rfl ?_
    refine w_getS (pc' := 15) (q := 3) fg_X11_21 kd_0 sf_X11_5 gr_0_5 dX11_gift_12 rfl ?_
    refine w_iload_n (pc' := 16) (i := 2) (by rfl) (by rfl) dX11_gift_15 rfl ?_
    refine v_callVE (pc' := 19) (st' := [gI (gb ((0 ≤ b ∧ b < (σ 3 2)) ∧ (σ 4 b) = 0))]) (d' := 1) (av := [gI b]) mi_mX8_isPerson lk_X11_132 rfl ci_X8 kd_3 rfl (Nat.le_of_ble_eq_true rfl) (Nat.le_of_ble_eq_true rfl) dX11_gift_16 rfl rfl (pa_isPerson σ (by first | exact hp | omega) b) ?_
    refine v_if_eqB (pc' := 22) (t := 27) dX11_gift_19 rfl rfl (fun c_19 => ?_) (fun c_19 => ?_)
    · skip
      refine w_bipush (pc' := 29) (by decide) (by decide) dX11_gift_27 rfl ?_
      refine v_ireturn rfl dX11_gift_29 ?_
      exact ⟨by rw [if_neg (by omega)], (if_neg (by omega)).symm⟩
    · skip
      refine w_iload_n (pc' := 23) (i := 1) (by rfl) (by rfl) dX11_gift_22 rfl ?_
      refine w_iload_n (pc' := 24) (i := 2) (by rfl) (by rfl) dX11_gift_23 rfl ?_
      refine w_icmp_ne (pc' := 27) (t := 30) dX11_gift_24 rfl rfl (fun c_24 => ?_) (fun c_24 => ?_)
      · skip
        refine w_iload_n (pc' := 31) (i := 3) (by rfl) (by rfl) dX11_gift_30 rfl ?_
        refine w_if_lt (pc' := 34) (t := 47) dX11_gift_31 rfl rfl (fun c_31 => ?_) (fun c_31 => ?_)
        · skip
          refine w_bipush (pc' := 49) (by decide) (by decide) dX11_gift_47 rfl ?_
          refine v_ireturn rfl dX11_gift_49 ?_
          exact ⟨by rw [if_pos (by omega), if_neg (by omega)], (if_neg (by omega)).symm⟩
        · skip
          refine w_iload_n (pc' := 35) (i := 3) (by rfl) (by rfl) dX11_gift_34 rfl ?_
          refine w_iconst (pc' := 36) (by decide) dX11_gift_35 rfl ?_
          refine w_icmp_gt (pc' := 39) (t := 47) dX11_gift_36 rfl rfl (fun c_36 => ?_) (fun c_36 => ?_)
          · skip
            refine w_bipush (pc' := 49) (by decide) (by decide) dX11_gift_47 rfl ?_
            refine v_ireturn rfl dX11_gift_49 ?_
            exact ⟨by rw [if_pos (by omega), if_neg (by omega)], (if_neg (by omega)).symm⟩
          · skip
            refine w_iload (pc' := 41) (by rfl) dX11_gift_39 rfl ?_
            refine v_callSE (pc' := 44) (st' := [gI (gb (0 ≤ d ∧ d ≤ 9999))]) (d' := 0) (av := [gI d]) ms_mX11_isDay st_mX11_isDay lk_X11_129 rfl rfl (Nat.le_of_ble_eq_true rfl) (Nat.le_of_ble_eq_true rfl) dX11_gift_41 rfl rfl (cl_isDay σ d) ?_
            refine v_if_neB (pc' := 47) (t := 50) dX11_gift_44 rfl rfl (fun c_44 => ?_) (fun c_44 => ?_)
            · skip
              refine w_iload (pc' := 52) (by rfl) dX11_gift_50 rfl ?_
              refine w_iload (pc' := 54) (by rfl) dX11_gift_52 rfl ?_
              refine v_callSE (pc' := 57) (st' := [gI (gb (0 ≤ l ∧ l ≤ m ∧ m ≤ 1000000))]) (d' := 0) (av := [gI l, gI m]) ms_mX11_isRange st_mX11_isRange lk_X11_140 rfl rfl (Nat.le_of_ble_eq_true rfl) (Nat.le_of_ble_eq_true rfl) dX11_gift_54 rfl rfl (cl_isRange σ l m) ?_
              refine v_if_neB (pc' := 60) (t := 63) dX11_gift_57 rfl rfl (fun c_57 => ?_) (fun c_57 => ?_)
              · skip
                refine w_aload_n (pc' := 64) (i := 0) (by rfl) (by rfl) dX11_gift_63 rfl ?_
                refine w_getS (pc' := 67) (q := 41) fg_X11_51 kd_0 sf_X11_9 gr_0_9 dX11_gift_64 rfl ?_
                refine w_iload_n (pc' := 68) (i := 1) (by rfl) (by rfl) dX11_gift_67 rfl ?_
                refine w_iload_n (pc' := 69) (i := 2) (by rfl) (by rfl) dX11_gift_68 rfl ?_
                refine w_iload_n (pc' := 70) (i := 3) (by rfl) (by rfl) dX11_gift_69 rfl ?_
                refine w_iload (pc' := 72) (by rfl) dX11_gift_70 rfl ?_
                refine w_aload_n (pc' := 73) (i := 0) (by rfl) (by rfl) dX11_gift_72 rfl ?_
                refine v_getI (pc' := 76) (ji := 4) rfl fg_X11_96 kd_0 dX11_gift_73 rfl ?_
                refine v_callVE (pc' := 79) (st' := [gI (if σ 41 11 < 120 then σ 41 11 else -1)]) (d' := 0) (av := [gI a, gI b, gI k, gI d, gI (σ 0 4)]) mi_mX2_add lk_X11_144 rfl ci_X2 kd_41 rfl (Nat.le_of_ble_eq_true rfl) (Nat.le_of_ble_eq_true rfl) dX11_gift_76 rfl rfl (g_add σ hz a b k d (σ 0 4)) ?_
                refine w_istore (pc' := 81) (ls' := [gR 0, gI a, gI b, gI k, gI d, gI f, gI l, gI m, gI (if σ 41 11 < 120 then σ 41 11 else -1)]) (by decide) (by rfl) dX11_gift_79 rfl ?_
                refine w_iload (pc' := 83) (by rfl) dX11_gift_81 rfl ?_
                refine w_iconst (pc' := 84) (by decide) dX11_gift_83 rfl ?_
                refine w_icmp_ne (pc' := 87) (t := 90) dX11_gift_84 rfl rfl (fun c_84 => ?_) (fun c_84 => ?_)
                · skip
                  refine w_aload_n (pc' := 91) (i := 0) (by rfl) (by rfl) dX11_gift_90 rfl ?_
                  refine w_getS (pc' := 94) (q := 41) fg_X11_51 kd_0 sf_X11_9 gr_0_9 dX11_gift_91 rfl ?_
                  refine w_iload (pc' := 96) (by rfl) dX11_gift_94 rfl ?_
                  refine w_iload (pc' := 98) (by rfl) dX11_gift_96 rfl ?_
                  refine w_iload (pc' := 100) (by rfl) dX11_gift_98 rfl ?_
                  refine w_iload (pc' := 102) (by rfl) dX11_gift_100 rfl ?_
                  refine v_callVE (pc' := 105) (st' := []) (d' := 1) (av := [gI (if σ 41 11 < 120 then σ 41 11 else -1), gI f, gI l, gI m]) mi_mX2_describe lk_X11_146 rfl ci_X2 kd_41 rfl (Nat.le_of_ble_eq_true rfl) (Nat.le_of_ble_eq_true rfl) dX11_gift_102 rfl rfl (g_describe (if σ 41 11 < 120 then gUp (gUp (gUp (gUp (gUp (gUp (gUp (gUp σ 42 (σ 41 11) a) 43 (σ 41 11) b) 44 (σ 41 11) k) 45 (σ 41 11) d) 49 (σ 41 11) (σ 0 4)) 50 (σ 41 11) (-1)) 52 (σ 41 11) (-1)) 41 11 (σ 41 11 + 1) else σ) (by have c : σ 41 11 < 120 := (by by_cases c : σ 41 11 < 120; exact c; rw [if_neg c] at c_84; exact absurd rfl c_84); rw [if_pos c]; exact ⟨by show 0 ≤ σ 41 11 + 1; omega, by show σ 41 11 + 1 ≤ 120; omega, hz.2.2⟩) (if σ 41 11 < 120 then σ 41 11 else -1) f l m hf) ?_
                  refine w_iload (pc' := 107) (by rfl) dX11_gift_105 rfl ?_
                  refine v_ireturn rfl dX11_gift_107 ?_
                  have c : σ 41 11 < 120 := by by_cases c : σ 41 11 < 120; exact c; rw [if_neg c] at c_84; exact absurd rfl c_84
                  simp only [if_pos c]
                  refine ⟨by rw [if_pos (by omega), if_pos (by omega), if_pos (by omega)], ?_⟩
                  rw [if_pos (show 0 ≤ σ 41 11 ∧ σ 41 11 < (gUp (gUp (gUp (gUp (gUp (gUp (gUp (gUp σ 42 (σ 41 11) a) 43 (σ 41 11) b) 44 (σ 41 11) k) 45 (σ 41 11) d) 49 (σ 41 11) (σ 0 4)) 50 (σ 41 11) (-1)) 52 (σ 41 11) (-1)) 41 11 (σ 41 11 + 1)) 41 11 from ⟨by omega, by show σ 41 11 < σ 41 11 + 1; omega⟩)]
                  exact (if_pos (by omega)).symm
                · skip
                  refine w_bipush (pc' := 89) (by decide) (by decide) dX11_gift_87 rfl ?_
                  refine v_ireturn rfl dX11_gift_89 ?_
                  have c : ¬ σ 41 11 < 120 := by
                    intro c
                    rw [if_pos c] at c_84
                    omega
                  exact ⟨by rw [if_pos (by omega), if_pos (by omega), if_pos (by omega), if_neg c], (if_neg c).trans (if_neg (by omega)).symm⟩
              · skip
                refine w_bipush (pc' := 62) (by decide) (by decide) dX11_gift_60 rfl ?_
                refine v_ireturn rfl dX11_gift_62 ?_
                exact ⟨by rw [if_pos (by omega), if_pos (by omega), if_neg (by omega)], (if_neg (by omega)).symm⟩
            · skip
              refine w_bipush (pc' := 49) (by decide) (by decide) dX11_gift_47 rfl ?_
              refine v_ireturn rfl dX11_gift_49 ?_
              exact ⟨by rw [if_pos (by omega), if_neg (by omega)], (if_neg (by omega)).symm⟩
      · skip
        refine w_bipush (pc' := 29) (by decide) (by decide) dX11_gift_27 rfl ?_
        refine v_ireturn rfl dX11_gift_29 ?_
        exact ⟨by rw [if_neg (by omega)], (if_neg (by omega)).symm⟩
