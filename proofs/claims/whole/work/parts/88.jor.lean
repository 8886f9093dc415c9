/-! joined: the reference (gen/mod_jor.py) -/
theorem encR_inj {b : Int} (hb : b = 32 ∨ b = 27) : ∀ (w w' : List Int), (∀ l ∈ w, 1 ≤ l ∧ l ≤ 26) → (∀ l ∈ w', 1 ≤ l ∧ l ≤ 26) → (0 ≤ w.foldr (fun c v => b * v + c) 0 ∧ 0 ≤ w'.foldr (fun c v => b * v + c) 0) ∧ (w.foldr (fun c v => b * v + c) 0 = w'.foldr (fun c v => b * v + c) 0 → w = w')
  | [], [], _, _ => ⟨⟨Int.le_refl _, Int.le_refl _⟩, fun _ => rfl⟩
  | [], c :: l, h, h' => by
    have ih := (encR_inj hb [] l (fun _ k => nomatch k) (fun x k => h' x (List.mem_cons_of_mem _ k))).1.2
    have hc := h' c List.mem_cons_self
    show (0 ≤ (0 : Int) ∧ 0 ≤ b * l.foldr (fun c v => b * v + c) 0 + c) ∧ ((0 : Int) = b * l.foldr (fun c v => b * v + c) 0 + c → _)
    generalize l.foldr (fun c v => b * v + c) 0 = v at *
    rcases hb with rfl | rfl <;> exact ⟨⟨by omega, by omega⟩, fun e => by omega⟩
  | c :: l, [], h, h' => by
    have ih := (encR_inj hb l [] (fun x k => h x (List.mem_cons_of_mem _ k)) (fun _ k => nomatch k)).1.1
    have hc := h c List.mem_cons_self
    show (0 ≤ b * l.foldr (fun c v => b * v + c) 0 + c ∧ 0 ≤ (0 : Int)) ∧ (b * l.foldr (fun c v => b * v + c) 0 + c = (0 : Int) → _)
    generalize l.foldr (fun c v => b * v + c) 0 = v at *
    rcases hb with rfl | rfl <;> exact ⟨⟨by omega, by omega⟩, fun e => by omega⟩
  | c :: l, c' :: l', h, h' => by
    have ih := encR_inj hb l l' (fun x k => h x (List.mem_cons_of_mem _ k)) (fun x k => h' x (List.mem_cons_of_mem _ k))
    have hc := h c List.mem_cons_self
    have hc' := h' c' List.mem_cons_self
    show (0 ≤ b * l.foldr (fun c v => b * v + c) 0 + c ∧ 0 ≤ b * l'.foldr (fun c v => b * v + c) 0 + c') ∧ (b * l.foldr (fun c v => b * v + c) 0 + c = b * l'.foldr (fun c v => b * v + c) 0 + c' → c :: l = c' :: l')
    obtain ⟨⟨p, q⟩, r⟩ := ih
    generalize l.foldr (fun c v => b * v + c) 0 = v at *
    generalize l'.foldr (fun c v => b * v + c) 0 = v' at *
    rcases hb with rfl | rfl <;> exact ⟨⟨by omega, by omega⟩, fun e => by rw [r (by omega), show c = c' by omega]⟩
theorem enc_inj {b : Int} (hb : b = 32 ∨ b = 27) {w w' : List Int} (h : isNm w) (h' : isNm w') (e : enc b w = enc b w') : w = w' := by
  have k : ∀ u : List Int, enc b u = u.reverse.foldr (fun c v => b * v + c) 0 := fun u => (List.foldr_reverse ..).symm
  rw [k, k] at e
  exact List.reverse_inj.mp ((encR_inj hb _ _ (fun l m => h.2.2 l (List.mem_reverse.mp m)) (fun l m => h'.2.2 l (List.mem_reverse.mp m))).2 e)
theorem nmR_eq {c m c' m' : Int} (h : nmR c m) (h' : nmR c' m') : m = m' ↔ c = c' := by
  obtain ⟨w, hw, rfl, rfl⟩ := h
  obtain ⟨w', hw', rfl, rfl⟩ := h'
  exact ⟨fun e => by rw [enc_inj (Or.inr rfl) hw hw' e], fun e => by rw [enc_inj (Or.inl rfl) hw hw' e]⟩
/-- entry e fits gift g as of t -/
abbrev fitP (σ : gH) (t e g : Int) : Prop := σ 117 e ≤ t ∧ σ 49 g ≤ t ∧ TOLD σ g t ≠ -1 ∧ σ 5 (σ 43 g) = σ 114 e ∧ (-3 ≤ σ 45 g - σ 115 e ∧ σ 45 g - σ 115 e ≤ 3) ∧ HD (AR σ (σ 115 e) t) (σ 42 g) = HD (AR σ (σ 115 e) t) (σ 113 e) ∧ LEAST σ g t ≤ σ 116 e ∧ σ 116 e ≤ MOST σ g t
theorem ent_row {σ : gH} (hI : Inv σ) {e : Int} (h0 : 0 ≤ e) (h1 : e < σ 112 8) : (0 ≤ σ 113 e ∧ σ 113 e < σ 3 2) ∧ nmR (σ 114 e) (σ 196 e) ∧ (0 ≤ σ 115 e ∧ σ 115 e ≤ 9999) ∧ (0 ≤ σ 116 e ∧ σ 116 e ≤ 1000000) := by
  have k := (hI.f.ent.2.2.2 e h0 h1).2
  have k2 := k.2.2.2.2
  unfold isP isDy at k2
  exact ⟨k2.1, k.1, k2.2.1, k2.2.2.1, k2.2.2.2.1⟩
theorem nm_both {σ : gH} (hI : Inv σ) {e x : Int} (h0 : 0 ≤ e) (h1 : e < σ 112 8) (x0 : 0 ≤ x) (x1 : x < σ 3 2) : σ 136 x = σ 196 e ↔ σ 5 x = σ 114 e := nmR_eq (hI.f.party.2.2.2 x x0 x1).2.2.2 (ent_row hI h0 h1).2.1
theorem q_fit {σ0 σ : gH} (hI : Inv σ0) (hq : QM σ0 σ) (e g t : Int) (he : 0 ≤ e ∧ e < σ0 112 8) (hg : 0 ≤ g ∧ g < σ0 41 11) (hw : WK (AR σ0 (σ0 115 e) t) (σ0 3 2) (σ 168) (σ 169) (σ 170)) (hk : σ0 117 e ≤ t) : Mt mX12_fit 1 [gR 133, gI e, gI g, gI t] σ (rE (gI (gb (fitP σ0 t e g))) σ) := by
  refine Mt.walk (ls := [gR 133, gI e, gI g, gI t, gX 1]) pn_X12 rfl (fun _ _ h => by cases h.1) (Nat.le_of_ble_eq_true rfl) rfl ?_
  have hz := hI.f.hz
  have hp60 := hI.f.hp
  have hen := hI.f.ent.2.2.1
  have hrow := gift_row hI hg.1 hg.2
  have her := ent_row hI he.1 he.2
  have her1 := her.1
  have her3 := her.2.2
  have hnm := nm_both hI he.1 he.2 (x := σ0 43 g) hrow.2.1.1 hrow.2.1.2.1
  have hnm2 := gCmp_eq (x := σ0 136 (σ0 43 g)) (y := σ0 196 e)
  have eh1 : σ 169 (σ0 42 g) = HD (AR σ0 (σ0 115 e) t) (σ0 42 g) := hw.2 _ hrow.1.1 hrow.1.2
  have eh2 : σ 169 (σ0 113 e) = HD (AR σ0 (σ0 115 e) t) (σ0 113 e) := hw.2 _ her.1.1 her.1.2
  clear hw her
  refine w_aload_n (pc' := 1) (i := 0) (by rfl) (by rfl) dX12_fit_0 rfl ?_
  refine w_getS (pc' := 4) (q := 156) fg_X12_81 kd_133 sf_X12_30 gr_133_30 dX12_fit_1 rfl ?_
  refine w_iload_n (pc' := 5) (i := 2) (by rfl) (by rfl) dX12_fit_4 rfl ?_
  refine w_iald (pc' := 6) kd_156 (by omega) (by omega) dX12_fit_5 rfl ?_
  rw [(hq).rd (k := 156) (i := g) (.inr rfl)]
  rw [hI.e156 (i := g) (by omega) (by omega)]
  refine w_aload_n (pc' := 7) (i := 0) (by rfl) (by rfl) dX12_fit_6 rfl ?_
  refine w_getS (pc' := 10) (q := 193) fg_X12_199 kd_133 sf_X12_95 gr_133_95 dX12_fit_7 rfl ?_
  refine w_iload_n (pc' := 11) (i := 1) (by rfl) (by rfl) dX12_fit_10 rfl ?_
  refine w_iald (pc' := 12) kd_193 (by omega) (by omega) dX12_fit_11 rfl ?_
  rw [(hq).rd (k := 193) (i := e) (.inr rfl)]
  rw [hI.e193 (i := e) (by omega) (by omega)]
  refine w_icmp_le (pc' := 15) (t := 31) dX12_fit_12 rfl rfl (fun c_12 => ?_) (fun c_12 => ?_)
  · skip
    refine w_aload_n (pc' := 32) (i := 0) (by rfl) (by rfl) dX12_fit_31 rfl ?_
    refine w_getS (pc' := 35) (q := 193) fg_X12_199 kd_133 sf_X12_95 gr_133_95 dX12_fit_32 rfl ?_
    refine w_iload_n (pc' := 36) (i := 1) (by rfl) (by rfl) dX12_fit_35 rfl ?_
    refine w_iald (pc' := 37) kd_193 (by omega) (by omega) dX12_fit_36 rfl ?_
    rw [(hq).rd (k := 193) (i := e) (.inr rfl)]
    rw [hI.e193 (i := e) (by omega) (by omega)]
    refine w_aload_n (pc' := 38) (i := 0) (by rfl) (by rfl) dX12_fit_37 rfl ?_
    refine w_getS (pc' := 41) (q := 156) fg_X12_81 kd_133 sf_X12_30 gr_133_30 dX12_fit_38 rfl ?_
    refine w_iload_n (pc' := 42) (i := 2) (by rfl) (by rfl) dX12_fit_41 rfl ?_
    refine w_iald (pc' := 43) kd_156 (by omega) (by omega) dX12_fit_42 rfl ?_
    rw [(hq).rd (k := 156) (i := g) (.inr rfl)]
    rw [hI.e156 (i := g) (by omega) (by omega)]
    refine v_isub (pc' := 44) (by omega) dX12_fit_43 rfl ?_
    refine w_istore (pc' := 46) (ls' := [gR 133, gI e, gI g, gI t, gI ((σ0 115 e) - (σ0 45 g))]) (by decide) (by rfl) dX12_fit_44 rfl ?_
    refine w_aload_n (pc' := 47) (i := 0) (by rfl) (by rfl) dX12_fit_46 rfl ?_
    refine w_getS (pc' := 50) (q := 159) fg_X12_90 kd_133 sf_X12_33 gr_133_33 dX12_fit_47 rfl ?_
    refine w_iload_n (pc' := 51) (i := 2) (by rfl) (by rfl) dX12_fit_50 rfl ?_
    refine w_iald (pc' := 52) kd_159 (by omega) (by omega) dX12_fit_51 rfl ?_
    rw [(hq).rd (k := 159) (i := g) (.inr rfl)]
    rw [hI.e159 (i := g) (by omega) (by omega)]
    refine w_iload_n (pc' := 53) (i := 3) (by rfl) (by rfl) dX12_fit_52 rfl ?_
    refine w_icmp_gt (pc' := 56) (t := 152) dX12_fit_53 rfl rfl (fun c_53 => ?_) (fun c_53 => ?_)
    · skip
      refine w_iconst (pc' := 153) (by decide) dX12_fit_152 rfl ?_
      refine w_zreturn rfl (.inl rfl) dX12_fit_153 ?_
      first | exact ⟨congrArg gI (gb_t (by omega)).symm, rfl⟩ | exact ⟨congrArg gI (gb_f (by omega)).symm, rfl⟩
    · skip
      refine w_aload_n (pc' := 57) (i := 0) (by rfl) (by rfl) dX12_fit_56 rfl ?_
      refine w_iload_n (pc' := 58) (i := 2) (by rfl) (by rfl) dX12_fit_57 rfl ?_
      refine w_iload_n (pc' := 59) (i := 3) (by rfl) (by rfl) dX12_fit_58 rfl ?_
      refine v_callVE (pc' := 62) (st' := [gI (TOLD σ0 g t)]) (d' := 0) (av := [gI g, gI t]) mi_mX12_toldOf lk_X12_531 rfl ci_X12 kd_133 rfl (Nat.le_of_ble_eq_true rfl) (Nat.le_of_ble_eq_true rfl) dX12_fit_59 rfl rfl (q_toldOf hI hq g t ⟨by omega, by omega⟩) ?_
      refine w_iconst (pc' := 63) (by decide) dX12_fit_62 rfl ?_
      refine w_icmp_eq (pc' := 66) (t := 152) dX12_fit_63 rfl rfl (fun c_63 => ?_) (fun c_63 => ?_)
      · skip
        refine w_iconst (pc' := 153) (by decide) dX12_fit_152 rfl ?_
        refine w_zreturn rfl (.inl rfl) dX12_fit_153 ?_
        first | exact ⟨congrArg gI (gb_t (by omega)).symm, rfl⟩ | exact ⟨congrArg gI (gb_f (by omega)).symm, rfl⟩
      · skip
        refine w_aload_n (pc' := 67) (i := 0) (by rfl) (by rfl) dX12_fit_66 rfl ?_
        refine w_getS (pc' := 70) (q := 136) fg_X12_16 kd_133 sf_X12_5 gr_133_5 dX12_fit_67 rfl ?_
        refine w_aload_n (pc' := 71) (i := 0) (by rfl) (by rfl) dX12_fit_70 rfl ?_
        refine w_getS (pc' := 74) (q := 154) fg_X12_75 kd_133 sf_X12_28 gr_133_28 dX12_fit_71 rfl ?_
        refine w_iload_n (pc' := 75) (i := 2) (by rfl) (by rfl) dX12_fit_74 rfl ?_
        refine w_iald (pc' := 76) kd_154 (by omega) (by omega) dX12_fit_75 rfl ?_
        rw [(hq).rd (k := 154) (i := g) (.inr rfl)]
        rw [hI.e154 (i := g) (by omega) (by omega)]
        refine w_lald (pc' := 77) kd_136 (by omega) (by omega) dX12_fit_76 rfl ?_
        rw [(hq).rd (k := 136) (i := σ0 43 g) (.inr rfl)]
        refine w_aload_n (pc' := 78) (i := 0) (by rfl) (by rfl) dX12_fit_77 rfl ?_
        refine w_getS (pc' := 81) (q := 196) fg_X12_208 kd_133 sf_X12_98 gr_133_98 dX12_fit_78 rfl ?_
        refine w_iload_n (pc' := 82) (i := 1) (by rfl) (by rfl) dX12_fit_81 rfl ?_
        refine w_lald (pc' := 83) kd_196 (by omega) (by omega) dX12_fit_82 rfl ?_
        rw [(hq).rd (k := 196) (i := e) (.inr rfl)]
        refine w_lcmp (pc' := 84) dX12_fit_83 rfl ?_
        refine w_if_ne (pc' := 87) (t := 152) dX12_fit_84 rfl rfl (fun c_84 => ?_) (fun c_84 => ?_)
        · skip
          refine w_iconst (pc' := 153) (by decide) dX12_fit_152 rfl ?_
          refine w_zreturn rfl (.inl rfl) dX12_fit_153 ?_
          first | exact ⟨congrArg gI (gb_t (by omega)).symm, rfl⟩ | exact ⟨congrArg gI (gb_f (by omega)).symm, rfl⟩
        · skip
          refine w_iload (pc' := 89) (by rfl) dX12_fit_87 rfl ?_
          refine w_iconst (pc' := 90) (by decide) dX12_fit_89 rfl ?_
          refine w_icmp_gt (pc' := 93) (t := 152) dX12_fit_90 rfl rfl (fun c_90 => ?_) (fun c_90 => ?_)
          · skip
            refine w_iconst (pc' := 153) (by decide) dX12_fit_152 rfl ?_
            refine w_zreturn rfl (.inl rfl) dX12_fit_153 ?_
            first | exact ⟨congrArg gI (gb_t (by omega)).symm, rfl⟩ | exact ⟨congrArg gI (gb_f (by omega)).symm, rfl⟩
          · skip
            refine w_aload_n (pc' := 94) (i := 0) (by rfl) (by rfl) dX12_fit_93 rfl ?_
            refine w_getS (pc' := 97) (q := 169) fg_X12_121 kd_133 sf_X12_45 gr_133_45 dX12_fit_94 rfl ?_
            refine w_aload_n (pc' := 98) (i := 0) (by rfl) (by rfl) dX12_fit_97 rfl ?_
            refine w_getS (pc' := 101) (q := 153) fg_X12_72 kd_133 sf_X12_27 gr_133_27 dX12_fit_98 rfl ?_
            refine w_iload_n (pc' := 102) (i := 2) (by rfl) (by rfl) dX12_fit_101 rfl ?_
            refine w_iald (pc' := 103) kd_153 (by omega) (by omega) dX12_fit_102 rfl ?_
            rw [(hq).rd (k := 153) (i := g) (.inr rfl)]
            rw [hI.e153 (i := g) (by omega) (by omega)]
            refine w_iald (pc' := 104) kd_169 (by omega) (by omega) dX12_fit_103 rfl ?_
            refine w_aload_n (pc' := 105) (i := 0) (by rfl) (by rfl) dX12_fit_104 rfl ?_
            refine w_getS (pc' := 108) (q := 169) fg_X12_121 kd_133 sf_X12_45 gr_133_45 dX12_fit_105 rfl ?_
            refine w_aload_n (pc' := 109) (i := 0) (by rfl) (by rfl) dX12_fit_108 rfl ?_
            refine w_getS (pc' := 112) (q := 192) fg_X12_196 kd_133 sf_X12_94 gr_133_94 dX12_fit_109 rfl ?_
            refine w_iload_n (pc' := 113) (i := 1) (by rfl) (by rfl) dX12_fit_112 rfl ?_
            refine w_iald (pc' := 114) kd_192 (by omega) (by omega) dX12_fit_113 rfl ?_
            rw [(hq).rd (k := 192) (i := e) (.inr rfl)]
            rw [hI.e192 (i := e) (by omega) (by omega)]
            refine w_iald (pc' := 115) kd_169 (by omega) (by omega) dX12_fit_114 rfl ?_
            refine w_icmp_ne (pc' := 118) (t := 152) dX12_fit_115 rfl rfl (fun c_115 => ?_) (fun c_115 => ?_)
            · skip
              refine w_iconst (pc' := 153) (by decide) dX12_fit_152 rfl ?_
              refine w_zreturn rfl (.inl rfl) dX12_fit_153 ?_
              first | exact ⟨congrArg gI (gb_t (by omega)).symm, rfl⟩ | exact ⟨congrArg gI (gb_f (by omega)).symm, rfl⟩
            · skip
              refine w_aload_n (pc' := 119) (i := 0) (by rfl) (by rfl) dX12_fit_118 rfl ?_
              refine w_getS (pc' := 122) (q := 194) fg_X12_202 kd_133 sf_X12_96 gr_133_96 dX12_fit_119 rfl ?_
              refine w_iload_n (pc' := 123) (i := 1) (by rfl) (by rfl) dX12_fit_122 rfl ?_
              refine w_iald (pc' := 124) kd_194 (by omega) (by omega) dX12_fit_123 rfl ?_
              rw [(hq).rd (k := 194) (i := e) (.inr rfl)]
              rw [hI.e194 (i := e) (by omega) (by omega)]
              refine w_aload_n (pc' := 125) (i := 0) (by rfl) (by rfl) dX12_fit_124 rfl ?_
              refine w_iload_n (pc' := 126) (i := 2) (by rfl) (by rfl) dX12_fit_125 rfl ?_
              refine w_iload_n (pc' := 127) (i := 3) (by rfl) (by rfl) dX12_fit_126 rfl ?_
              refine v_callVE (pc' := 130) (st' := [gI (LEAST σ0 g t), gI (σ0 116 e)]) (d' := 0) (av := [gI g, gI t]) mi_mX12_leastOf lk_X12_509 rfl ci_X12 kd_133 rfl (Nat.le_of_ble_eq_true rfl) (Nat.le_of_ble_eq_true rfl) dX12_fit_127 rfl rfl (q_leastOf hI hq g t ⟨by omega, by omega⟩) ?_
              refine w_icmp_lt (pc' := 133) (t := 152) dX12_fit_130 rfl rfl (fun c_130 => ?_) (fun c_130 => ?_)
              · skip
                refine w_iconst (pc' := 153) (by decide) dX12_fit_152 rfl ?_
                refine w_zreturn rfl (.inl rfl) dX12_fit_153 ?_
                first | exact ⟨congrArg gI (gb_t (by omega)).symm, rfl⟩ | exact ⟨congrArg gI (gb_f (by omega)).symm, rfl⟩
              · skip
                refine w_aload_n (pc' := 134) (i := 0) (by rfl) (by rfl) dX12_fit_133 rfl ?_
                refine w_getS (pc' := 137) (q := 194) fg_X12_202 kd_133 sf_X12_96 gr_133_96 dX12_fit_134 rfl ?_
                refine w_iload_n (pc' := 138) (i := 1) (by rfl) (by rfl) dX12_fit_137 rfl ?_
                refine w_iald (pc' := 139) kd_194 (by omega) (by omega) dX12_fit_138 rfl ?_
                rw [(hq).rd (k := 194) (i := e) (.inr rfl)]
                rw [hI.e194 (i := e) (by omega) (by omega)]
                refine w_aload_n (pc' := 140) (i := 0) (by rfl) (by rfl) dX12_fit_139 rfl ?_
                refine w_iload_n (pc' := 141) (i := 2) (by rfl) (by rfl) dX12_fit_140 rfl ?_
                refine w_iload_n (pc' := 142) (i := 3) (by rfl) (by rfl) dX12_fit_141 rfl ?_
                refine v_callVE (pc' := 145) (st' := [gI (MOST σ0 g t), gI (σ0 116 e)]) (d' := 0) (av := [gI g, gI t]) mi_mX12_mostOf lk_X12_519 rfl ci_X12 kd_133 rfl (Nat.le_of_ble_eq_true rfl) (Nat.le_of_ble_eq_true rfl) dX12_fit_142 rfl rfl (q_mostOf hI hq g t ⟨by omega, by omega⟩) ?_
                refine w_icmp_gt (pc' := 148) (t := 152) dX12_fit_145 rfl rfl (fun c_145 => ?_) (fun c_145 => ?_)
                · skip
                  refine w_iconst (pc' := 153) (by decide) dX12_fit_152 rfl ?_
                  refine w_zreturn rfl (.inl rfl) dX12_fit_153 ?_
                  first | exact ⟨congrArg gI (gb_t (by omega)).symm, rfl⟩ | exact ⟨congrArg gI (gb_f (by omega)).symm, rfl⟩
                · skip
                  refine w_iconst (pc' := 149) (by decide) dX12_fit_148 rfl ?_
                  refine w_goto (pc' := 153) dX12_fit_149 rfl ?_
                  refine w_zreturn rfl (.inr rfl) dX12_fit_153 ?_
                  first | exact ⟨congrArg gI (gb_t (by omega)).symm, rfl⟩ | exact ⟨congrArg gI (gb_f (by omega)).symm, rfl⟩
  · skip
    refine w_aload_n (pc' := 16) (i := 0) (by rfl) (by rfl) dX12_fit_15 rfl ?_
    refine w_getS (pc' := 19) (q := 156) fg_X12_81 kd_133 sf_X12_30 gr_133_30 dX12_fit_16 rfl ?_
    refine w_iload_n (pc' := 20) (i := 2) (by rfl) (by rfl) dX12_fit_19 rfl ?_
    refine w_iald (pc' := 21) kd_156 (by omega) (by omega) dX12_fit_20 rfl ?_
    rw [(hq).rd (k := 156) (i := g) (.inr rfl)]
    rw [hI.e156 (i := g) (by omega) (by omega)]
    refine w_aload_n (pc' := 22) (i := 0) (by rfl) (by rfl) dX12_fit_21 rfl ?_
    refine w_getS (pc' := 25) (q := 193) fg_X12_199 kd_133 sf_X12_95 gr_133_95 dX12_fit_22 rfl ?_
    refine w_iload_n (pc' := 26) (i := 1) (by rfl) (by rfl) dX12_fit_25 rfl ?_
    refine w_iald (pc' := 27) kd_193 (by omega) (by omega) dX12_fit_26 rfl ?_
    rw [(hq).rd (k := 193) (i := e) (.inr rfl)]
    rw [hI.e193 (i := e) (by omega) (by omega)]
    refine v_isub (pc' := 28) (by omega) dX12_fit_27 rfl ?_
    refine w_goto (pc' := 44) dX12_fit_28 rfl ?_
    refine w_istore (pc' := 46) (ls' := [gR 133, gI e, gI g, gI t, gI ((σ0 45 g) - (σ0 115 e))]) (by decide) (by rfl) dX12_fit_44 rfl ?_
    refine w_aload_n (pc' := 47) (i := 0) (by rfl) (by rfl) dX12_fit_46 rfl ?_
    refine w_getS (pc' := 50) (q := 159) fg_X12_90 kd_133 sf_X12_33 gr_133_33 dX12_fit_47 rfl ?_
    refine w_iload_n (pc' := 51) (i := 2) (by rfl) (by rfl) dX12_fit_50 rfl ?_
    refine w_iald (pc' := 52) kd_159 (by omega) (by omega) dX12_fit_51 rfl ?_
    rw [(hq).rd (k := 159) (i := g) (.inr rfl)]
    rw [hI.e159 (i := g) (by omega) (by omega)]
    refine w_iload_n (pc' := 53) (i := 3) (by rfl) (by rfl) dX12_fit_52 rfl ?_
    refine w_icmp_gt (pc' := 56) (t := 152) dX12_fit_53 rfl rfl (fun c_53 => ?_) (fun c_53 => ?_)
    · skip
      refine w_iconst (pc' := 153) (by decide) dX12_fit_152 rfl ?_
      refine w_zreturn rfl (.inl rfl) dX12_fit_153 ?_
      first | exact ⟨congrArg gI (gb_t (by omega)).symm, rfl⟩ | exact ⟨congrArg gI (gb_f (by omega)).symm, rfl⟩
    · skip
      refine w_aload_n (pc' := 57) (i := 0) (by rfl) (by rfl) dX12_fit_56 rfl ?_
      refine w_iload_n (pc' := 58) (i := 2) (by rfl) (by rfl) dX12_fit_57 rfl ?_
      refine w_iload_n (pc' := 59) (i := 3) (by rfl) (by rfl) dX12_fit_58 rfl ?_
      refine v_callVE (pc' := 62) (st' := [gI (TOLD σ0 g t)]) (d' := 0) (av := [gI g, gI t]) mi_mX12_toldOf lk_X12_531 rfl ci_X12 kd_133 rfl (Nat.le_of_ble_eq_true rfl) (Nat.le_of_ble_eq_true rfl) dX12_fit_59 rfl rfl (q_toldOf hI hq g t ⟨by omega, by omega⟩) ?_
      refine w_iconst (pc' := 63) (by decide) dX12_fit_62 rfl ?_
      refine w_icmp_eq (pc' := 66) (t := 152) dX12_fit_63 rfl rfl (fun c_63 => ?_) (fun c_63 => ?_)
      · skip
        refine w_iconst (pc' := 153) (by decide) dX12_fit_152 rfl ?_
        refine w_zreturn rfl (.inl rfl) dX12_fit_153 ?_
        first | exact ⟨congrArg gI (gb_t (by omega)).symm, rfl⟩ | exact ⟨congrArg gI (gb_f (by omega)).symm, rfl⟩
      · skip
        refine w_aload_n (pc' := 67) (i := 0) (by rfl) (by rfl) dX12_fit_66 rfl ?_
        refine w_getS (pc' := 70) (q := 136) fg_X12_16 kd_133 sf_X12_5 gr_133_5 dX12_fit_67 rfl ?_
        refine w_aload_n (pc' := 71) (i := 0) (by rfl) (by rfl) dX12_fit_70 rfl ?_
        refine w_getS (pc' := 74) (q := 154) fg_X12_75 kd_133 sf_X12_28 gr_133_28 dX12_fit_71 rfl ?_
        refine w_iload_n (pc' := 75) (i := 2) (by rfl) (by rfl) dX12_fit_74 rfl ?_
        refine w_iald (pc' := 76) kd_154 (by omega) (by omega) dX12_fit_75 rfl ?_
        rw [(hq).rd (k := 154) (i := g) (.inr rfl)]
        rw [hI.e154 (i := g) (by omega) (by omega)]
        refine w_lald (pc' := 77) kd_136 (by omega) (by omega) dX12_fit_76 rfl ?_
        rw [(hq).rd (k := 136) (i := σ0 43 g) (.inr rfl)]
        refine w_aload_n (pc' := 78) (i := 0) (by rfl) (by rfl) dX12_fit_77 rfl ?_
        refine w_getS (pc' := 81) (q := 196) fg_X12_208 kd_133 sf_X12_98 gr_133_98 dX12_fit_78 rfl ?_
        refine w_iload_n (pc' := 82) (i := 1) (by rfl) (by rfl) dX12_fit_81 rfl ?_
        refine w_lald (pc' := 83) kd_196 (by omega) (by omega) dX12_fit_82 rfl ?_
        rw [(hq).rd (k := 196) (i := e) (.inr rfl)]
        refine w_lcmp (pc' := 84) dX12_fit_83 rfl ?_
        refine w_if_ne (pc' := 87) (t := 152) dX12_fit_84 rfl rfl (fun c_84 => ?_) (fun c_84 => ?_)
        · skip
          refine w_iconst (pc' := 153) (by decide) dX12_fit_152 rfl ?_
          refine w_zreturn rfl (.inl rfl) dX12_fit_153 ?_
          first | exact ⟨congrArg gI (gb_t (by omega)).symm, rfl⟩ | exact ⟨congrArg gI (gb_f (by omega)).symm, rfl⟩
        · skip
          refine w_iload (pc' := 89) (by rfl) dX12_fit_87 rfl ?_
          refine w_iconst (pc' := 90) (by decide) dX12_fit_89 rfl ?_
          refine w_icmp_gt (pc' := 93) (t := 152) dX12_fit_90 rfl rfl (fun c_90 => ?_) (fun c_90 => ?_)
          · skip
            refine w_iconst (pc' := 153) (by decide) dX12_fit_152 rfl ?_
            refine w_zreturn rfl (.inl rfl) dX12_fit_153 ?_
            first | exact ⟨congrArg gI (gb_t (by omega)).symm, rfl⟩ | exact ⟨congrArg gI (gb_f (by omega)).symm, rfl⟩
          · skip
            refine w_aload_n (pc' := 94) (i := 0) (by rfl) (by rfl) dX12_fit_93 rfl ?_
            refine w_getS (pc' := 97) (q := 169) fg_X12_121 kd_133 sf_X12_45 gr_133_45 dX12_fit_94 rfl ?_
            refine w_aload_n (pc' := 98) (i := 0) (by rfl) (by rfl) dX12_fit_97 rfl ?_
            refine w_getS (pc' := 101) (q := 153) fg_X12_72 kd_133 sf_X12_27 gr_133_27 dX12_fit_98 rfl ?_
            refine w_iload_n (pc' := 102) (i := 2) (by rfl) (by rfl) dX12_fit_101 rfl ?_
            refine w_iald (pc' := 103) kd_153 (by omega) (by omega) dX12_fit_102 rfl ?_
            rw [(hq).rd (k := 153) (i := g) (.inr rfl)]
            rw [hI.e153 (i := g) (by omega) (by omega)]
            refine w_iald (pc' := 104) kd_169 (by omega) (by omega) dX12_fit_103 rfl ?_
            refine w_aload_n (pc' := 105) (i := 0) (by rfl) (by rfl) dX12_fit_104 rfl ?_
            refine w_getS (pc' := 108) (q := 169) fg_X12_121 kd_133 sf_X12_45 gr_133_45 dX12_fit_105 rfl ?_
            refine w_aload_n (pc' := 109) (i := 0) (by rfl) (by rfl) dX12_fit_108 rfl ?_
            refine w_getS (pc' := 112) (q := 192) fg_X12_196 kd_133 sf_X12_94 gr_133_94 dX12_fit_109 rfl ?_
            refine w_iload_n (pc' := 113) (i := 1) (by rfl) (by rfl) dX12_fit_112 rfl ?_
            refine w_iald (pc' := 114) kd_192 (by omega) (by omega) dX12_fit_113 rfl ?_
            rw [(hq).rd (k := 192) (i := e) (.inr rfl)]
            rw [hI.e192 (i := e) (by omega) (by omega)]
            refine w_iald (pc' := 115) kd_169 (by omega) (by omega) dX12_fit_114 rfl ?_
            refine w_icmp_ne (pc' := 118) (t := 152) dX12_fit_115 rfl rfl (fun c_115 => ?_) (fun c_115 => ?_)
            · skip
              refine w_iconst (pc' := 153) (by decide) dX12_fit_152 rfl ?_
              refine w_zreturn rfl (.inl rfl) dX12_fit_153 ?_
              first | exact ⟨congrArg gI (gb_t (by omega)).symm, rfl⟩ | exact ⟨congrArg gI (gb_f (by omega)).symm, rfl⟩
            · skip
              refine w_aload_n (pc' := 119) (i := 0) (by rfl) (by rfl) dX12_fit_118 rfl ?_
              refine w_getS (pc' := 122) (q := 194) fg_X12_202 kd_133 sf_X12_96 gr_133_96 dX12_fit_119 rfl ?_
              refine w_iload_n (pc' := 123) (i := 1) (by rfl) (by rfl) dX12_fit_122 rfl ?_
              refine w_iald (pc' := 124) kd_194 (by omega) (by omega) dX12_fit_123 rfl ?_
              rw [(hq).rd (k := 194) (i := e) (.inr rfl)]
              rw [hI.e194 (i := e) (by omega) (by omega)]
              refine w_aload_n (pc' := 125) (i := 0) (by rfl) (by rfl) dX12_fit_124 rfl ?_
              refine w_iload_n (pc' := 126) (i := 2) (by rfl) (by rfl) dX12_fit_125 rfl ?_
              refine w_iload_n (pc' := 127) (i := 3) (by rfl) (by rfl) dX12_fit_126 rfl ?_
              refine v_callVE (pc' := 130) (st' := [gI (LEAST σ0 g t), gI (σ0 116 e)]) (d' := 0) (av := [gI g, gI t]) mi_mX12_leastOf lk_X12_509 rfl ci_X12 kd_133 rfl (Nat.le_of_ble_eq_true rfl) (Nat.le_of_ble_eq_true rfl) dX12_fit_127 rfl rfl (q_leastOf hI hq g t ⟨by omega, by omega⟩) ?_
              refine w_icmp_lt (pc' := 133) (t := 152) dX12_fit_130 rfl rfl (fun c_130 => ?_) (fun c_130 => ?_)
              · skip
                refine w_iconst (pc' := 153) (by decide) dX12_fit_152 rfl ?_
                refine w_zreturn rfl (.inl rfl) dX12_fit_153 ?_
                first | exact ⟨congrArg gI (gb_t (by omega)).symm, rfl⟩ | exact ⟨congrArg gI (gb_f (by omega)).symm, rfl⟩
              · skip
                refine w_aload_n (pc' := 134) (i := 0) (by rfl) (by rfl) dX12_fit_133 rfl ?_
                refine w_getS (pc' := 137) (q := 194) fg_X12_202 kd_133 sf_X12_96 gr_133_96 dX12_fit_134 rfl ?_
                refine w_iload_n (pc' := 138) (i := 1) (by rfl) (by rfl) dX12_fit_137 rfl ?_
                refine w_iald (pc' := 139) kd_194 (by omega) (by omega) dX12_fit_138 rfl ?_
                rw [(hq).rd (k := 194) (i := e) (.inr rfl)]
                rw [hI.e194 (i := e) (by omega) (by omega)]
                refine w_aload_n (pc' := 140) (i := 0) (by rfl) (by rfl) dX12_fit_139 rfl ?_
                refine w_iload_n (pc' := 141) (i := 2) (by rfl) (by rfl) dX12_fit_140 rfl ?_
                refine w_iload_n (pc' := 142) (i := 3) (by rfl) (by rfl) dX12_fit_141 rfl ?_
                refine v_callVE (pc' := 145) (st' := [gI (MOST σ0 g t), gI (σ0 116 e)]) (d' := 0) (av := [gI g, gI t]) mi_mX12_mostOf lk_X12_519 rfl ci_X12 kd_133 rfl (Nat.le_of_ble_eq_true rfl) (Nat.le_of_ble_eq_true rfl) dX12_fit_142 rfl rfl (q_mostOf hI hq g t ⟨by omega, by omega⟩) ?_
                refine w_icmp_gt (pc' := 148) (t := 152) dX12_fit_145 rfl rfl (fun c_145 => ?_) (fun c_145 => ?_)
                · skip
                  refine w_iconst (pc' := 153) (by decide) dX12_fit_152 rfl ?_
                  refine w_zreturn rfl (.inl rfl) dX12_fit_153 ?_
                  first | exact ⟨congrArg gI (gb_t (by omega)).symm, rfl⟩ | exact ⟨congrArg gI (gb_f (by omega)).symm, rfl⟩
                · skip
                  refine w_iconst (pc' := 149) (by decide) dX12_fit_148 rfl ?_
                  refine w_goto (pc' := 153) dX12_fit_149 rfl ?_
                  refine w_zreturn rfl (.inr rfl) dX12_fit_153 ?_
                  first | exact ⟨congrArg gI (gb_t (by omega)).symm, rfl⟩ | exact ⟨congrArg gI (gb_f (by omega)).symm, rfl⟩
