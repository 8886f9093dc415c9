/-! the tokens of a law: the class, a run, the next one (gen/mod_tok2.py) -/
def RCT (T : Int → Int) (p q l d n : Int) : Prop := (∀ i, p ≤ i → i < q → pln (T i)) ∧ (d = 0 → ∀ i, p ≤ i → i < q → ltr (T i)) ∧ (0 < d → ∃ i, p ≤ i ∧ i < q ∧ dgt (T i)) ∧ (l = 0 → ∀ i, p ≤ i → i < q → dgt (T i)) ∧ (0 < l → ∃ i, p ≤ i ∧ i < q ∧ ltr (T i)) ∧ (l = 0 → d ≤ 7 → n = DEC (fun j => T (p + j)) (q - p).toNat)
theorem RCT_0 {T : Int → Int} {p : Int} : RCT T p p 0 0 0 := ⟨fun i a b => by omega, fun _ i a b => by omega, fun h => by omega, fun _ i a b => by omega, fun h => by omega, fun _ _ => by rw [show p - p = 0 by omega]; rfl⟩
theorem all_s {P : Int → Prop} {p q : Int} (h : ∀ i, p ≤ i → i < q → P i) (hq : P q) : ∀ i, p ≤ i → i < q + 1 → P i := fun i a b => by
  by_cases e : i = q
  · rw [e]; exact hq
  · exact h i a (by omega)
theorem RCT_l {T : Int → Int} {p q l d n : Int} (h : RCT T p q l d n) (hp : p ≤ q) (l0 : 0 ≤ l) (hl : ltr (T q)) : RCT T p (q + 1) (l + 1) d n :=
  ⟨all_s h.1 (Or.inl hl), fun e => all_s (h.2.1 e) hl, fun e => by obtain ⟨i, a, b, c⟩ := h.2.2.1 e; exact ⟨i, a, by omega, c⟩, fun e => by omega, fun _ => ⟨q, hp, by omega, hl⟩, fun e => by omega⟩
theorem RCT_d {T : Int → Int} {p q l d n n2 : Int} (h : RCT T p q l d n) (hp : p ≤ q) (d0 : 0 ≤ d) (hd : dgt (T q)) (hn : d + 1 ≤ 7 → n2 = n * 10 + T q - 48) : RCT T p (q + 1) l (d + 1) n2 :=
  ⟨all_s h.1 (Or.inr hd), fun e => by omega, fun _ => ⟨q, hp, by omega, hd⟩, fun e => all_s (h.2.2.2.1 e) hd, fun e => by obtain ⟨i, a, b, c⟩ := h.2.2.2.2.1 e; exact ⟨i, a, by omega, c⟩, fun e e2 => by
    rw [hn e2, show (q + 1 - p).toNat = (q - p).toNat + 1 by omega, h.2.2.2.2.2 e (by omega)]
    show _ = DEC _ _ * 10 + T (p + ((q - p).toNat : Int)) - 48
    rw [show p + ((q - p).toNat : Int) = q by omega]⟩
theorem RCT_e {T : Int → Int} {L p q l d n k v : Int} (h : RCT T p q l d n) (hp : p ≤ q) (hq : q ≤ L) (hs : l + d = q - p) (l0 : 0 ≤ l) (d0 : 0 ≤ d) (hne : p < q) (he : q < L → ¬ pln (T q))
    (c : (d = 0 ∧ k = 2 ∧ KWD (fun j => T (p + j)) l v) ∨ (d ≠ 0 ∧ l = 0 ∧ d ≤ 7 ∧ k = 3 ∧ v = n) ∨ (d ≠ 0 ∧ (l ≠ 0 ∨ 7 < d) ∧ k = 1 ∧ v = -1)) : RUN T L p q k v := by
  refine ⟨⟨hp, hq, h.1, he⟩, ?_⟩
  rcases c with c | c | c
  · exact Or.inl ⟨h.2.1 c.1, c.2.1, by rw [show q - p = l by omega]; exact c.2.2⟩
  · exact Or.inr (Or.inl ⟨h.2.2.2.1 c.2.1, hne, by omega, c.2.2.2.1, c.2.2.2.2.trans (h.2.2.2.2.2 c.2.1 c.2.2.1)⟩)
  · refine Or.inr (Or.inr ⟨h.2.2.1 (by omega), ?_, c.2.2⟩)
    by_cases e : l = 0
    · exact Or.inr (by omega)
    · exact Or.inl (h.2.2.2.2.1 (by omega))
theorem kt_takeRun {σ : gH} (ht : σ 66 0 = 1) (hL : σ 66 1 ≤ 540) (hp : 0 ≤ (σ 66 3) ∧ (σ 66 3) < σ 66 1) (hpp : σ 66 4 = (σ 66 3)) (hpl : pln (σ 1 (σ 66 3))) (hv6 : σ 66 6 = -1) : Mt mX10_takeRun 6 [gR 66] σ (fun v σ' => ∃ q k w, v = gX 1 ∧ σ' = gUp (gUp (gUp σ 66 4 q) 66 5 k) 66 6 w ∧ RUN (σ 1) (σ 66 1) (σ 66 3) q k w) := by
  refine Mt.walk (ls := [gR 66, gX 1, gX 1, gX 1]) pn_X10 rfl (fun _ _ h => by obtain ⟨_, _, _, h, _⟩ := h; cases h) (Nat.le_of_ble_eq_true rfl) rfl ?_
  refine w_iconst (pc' := 1) (by decide) dX10_takeRun_0 rfl ?_
  refine w_istore_n (pc' := 2) (i := 1) (ls' := [gR 66, gI 0, gX 1, gX 1]) (by rfl) (by decide) (by rfl) dX10_takeRun_1 rfl ?_
  refine w_iconst (pc' := 3) (by decide) dX10_takeRun_2 rfl ?_
  refine w_istore_n (pc' := 4) (i := 2) (ls' := [gR 66, gI 0, gI 0, gX 1]) (by rfl) (by decide) (by rfl) dX10_takeRun_3 rfl ?_
  refine w_iconst (pc' := 5) (by decide) dX10_takeRun_4 rfl ?_
  refine w_istore_n (pc' := 6) (i := 3) (ls' := [gR 66, gI 0, gI 0, gI 0]) (by rfl) (by decide) (by rfl) dX10_takeRun_5 rfl ?_
  have hl_6 : ∀ (mm : Nat) (l d n q : Int), (σ 66 1 - q).toNat = mm → ((σ 66 3) ≤ q) → (q ≤ σ 66 1) → (0 ≤ l) → (0 ≤ d) → (l + d = q - (σ 66 3)) → (0 ≤ n) → (n < p10 d) → (RCT (σ 1) (σ 66 3) q l d n) → Wp mX10_takeRun 6 (fun v σ' => ∃ q k w, v = gX 1 ∧ σ' = gUp (gUp (gUp σ 66 4 q) 66 5 k) 66 6 w ∧ RUN (σ 1) (σ 66 1) (σ 66 3) q k w) (gUp σ 66 4 q) 6 [gR 66, gI l, gI d, gI n] [] := by
    intro m_6
    induction m_6 using Nat.strongRecOn with
    | _ m_6 ih_6 =>
      intro l d n q hmeas_6 q0 q1 l0 d0 hs n0 n1 hR
      have hp1 := p10_in d
      have hp2 := p10_in (d + 1)
      have hpm := p10_m d0
      have hps : ∀ _ : Unit, d < 7 → p10 (d + 1) = 10 * p10 d := fun _ h => p10_s d0 h
      refine w_aload_n (pc' := 7) (i := 0) (by rfl) (by rfl) dX10_takeRun_6 rfl ?_
      refine v_getI (pc' := 10) (ji := 4) rfl fg_X10_31 kd_66 dX10_takeRun_7 rfl ?_
      show Wp _ _ _ _ _ _ [gI q]
      refine w_aload_n (pc' := 11) (i := 0) (by rfl) (by rfl) dX10_takeRun_10 rfl ?_
      refine v_getI (pc' := 14) (ji := 1) rfl fg_X10_24 kd_66 dX10_takeRun_11 rfl ?_
      show Wp _ _ _ _ _ _ [gI (σ 66 1), gI q]
      refine w_icmp_ge (pc' := 17) (t := 94) dX10_takeRun_14 rfl rfl (fun c_14 => ?_) (fun c_14 => ?_)
      · skip
        have hen : ∀ _ : Unit, q < σ 66 1 → ¬ pln (σ 1 q) := fun _ h => by omega
        have hne : ∀ _ : Unit, (σ 66 3) < q := fun _ => by
          by_cases e : q = (σ 66 3)
          · exfalso; have e2 : σ 1 q = σ 1 (σ 66 3) := by rw [e]
            omega
          · omega
        refine w_iload_n (pc' := 95) (i := 2) (by rfl) (by rfl) dX10_takeRun_94 rfl ?_
        refine w_if_ne (pc' := 98) (t := 119) dX10_takeRun_95 rfl rfl (fun c_95 => ?_) (fun c_95 => ?_)
        · skip
          refine w_iload_n (pc' := 120) (i := 1) (by rfl) (by rfl) dX10_takeRun_119 rfl ?_
          refine w_if_ne (pc' := 123) (t := 142) dX10_takeRun_120 rfl rfl (fun c_120 => ?_) (fun c_120 => ?_)
          · skip
            refine w_aload_n (pc' := 143) (i := 0) (by rfl) (by rfl) dX10_takeRun_142 rfl ?_
            refine w_iconst (pc' := 144) (by decide) dX10_takeRun_143 rfl ?_
            refine v_putI (pc' := 147) (ji := 5) rfl fp_X10_34 kd_66 sf_X10_5 dX10_takeRun_144 rfl ?_
            refine w_return rfl dX10_takeRun_147 ?_
            exact ⟨q, 1, σ 66 6, rfl, gUp_id.symm, RCT_e hR q0 q1 hs l0 d0 (hne ()) (hen ()) (Or.inr (Or.inr ⟨by omega, by omega, rfl, hv6⟩))⟩
          · skip
            refine w_iload_n (pc' := 124) (i := 2) (by rfl) (by rfl) dX10_takeRun_123 rfl ?_
            refine w_bipush (pc' := 126) (by decide) (by decide) dX10_takeRun_124 rfl ?_
            refine w_icmp_gt (pc' := 129) (t := 142) dX10_takeRun_126 rfl rfl (fun c_126 => ?_) (fun c_126 => ?_)
            · skip
              refine w_aload_n (pc' := 143) (i := 0) (by rfl) (by rfl) dX10_takeRun_142 rfl ?_
              refine w_iconst (pc' := 144) (by decide) dX10_takeRun_143 rfl ?_
              refine v_putI (pc' := 147) (ji := 5) rfl fp_X10_34 kd_66 sf_X10_5 dX10_takeRun_144 rfl ?_
              refine w_return rfl dX10_takeRun_147 ?_
              exact ⟨q, 1, σ 66 6, rfl, gUp_id.symm, RCT_e hR q0 q1 hs l0 d0 (hne ()) (hen ()) (Or.inr (Or.inr ⟨by omega, by omega, rfl, hv6⟩))⟩
            · skip
              refine w_aload_n (pc' := 130) (i := 0) (by rfl) (by rfl) dX10_takeRun_129 rfl ?_
              refine w_iconst (pc' := 131) (by decide) dX10_takeRun_130 rfl ?_
              refine v_putI (pc' := 134) (ji := 5) rfl fp_X10_34 kd_66 sf_X10_5 dX10_takeRun_131 rfl ?_
              refine w_aload_n (pc' := 135) (i := 0) (by rfl) (by rfl) dX10_takeRun_134 rfl ?_
              refine w_iload_n (pc' := 136) (i := 3) (by rfl) (by rfl) dX10_takeRun_135 rfl ?_
              refine v_putI (pc' := 139) (ji := 6) rfl fp_X10_37 kd_66 sf_X10_6 dX10_takeRun_136 rfl ?_
              refine w_goto (pc' := 147) dX10_takeRun_139 rfl ?_
              refine w_return rfl dX10_takeRun_147 ?_
              exact ⟨q, 3, n, rfl, rfl, RCT_e hR q0 q1 hs l0 d0 (hne ()) (hen ()) (by first | exact Or.inl ⟨by omega, rfl, hk_110⟩ | exact Or.inr (Or.inl ⟨by omega, by omega, by omega, rfl, rfl⟩))⟩
        · skip
          refine w_aload_n (pc' := 99) (i := 0) (by rfl) (by rfl) dX10_takeRun_98 rfl ?_
          refine w_iconst (pc' := 100) (by decide) dX10_takeRun_99 rfl ?_
          refine v_putI (pc' := 103) (ji := 5) rfl fp_X10_34 kd_66 sf_X10_5 dX10_takeRun_100 rfl ?_
          refine w_aload_n (pc' := 104) (i := 0) (by rfl) (by rfl) dX10_takeRun_103 rfl ?_
          refine w_aload_n (pc' := 105) (i := 0) (by rfl) (by rfl) dX10_takeRun_104 rfl ?_
          refine w_aload_n (pc' := 106) (i := 0) (by rfl) (by rfl) dX10_takeRun_105 rfl ?_
          refine v_getI (pc' := 109) (ji := 3) rfl fg_X10_40 kd_66 dX10_takeRun_106 rfl ?_
          show Wp _ _ _ _ _ _ [gI (σ 66 3), gR 66, gR 66]
          refine w_iload_n (pc' := 110) (i := 1) (by rfl) (by rfl) dX10_takeRun_109 rfl ?_
          refine w_callV (pc' := 113) (d' := 5) (av := [gI (σ 66 3), gI l]) mi_mX10_wordFrom lk_X10_66 rfl ci_X10 kd_66 rfl (Nat.le_of_ble_eq_true rfl) (Nat.le_of_ble_eq_true rfl) dX10_takeRun_110 rfl (kt_wordFrom (σ := gUp (gUp σ 66 4 q) 66 5 2) ht hL (σ 66 3) l (show 0 ≤ (σ 66 3) ∧ (σ 66 3) + l ≤ σ 66 1 by omega) (by have := hne (); omega)) (fun v_110 σ_110 q_110 => ?_)
          obtain ⟨⟨w_110, rfl, hk_110⟩, rfl⟩ := q_110
          show Wp _ _ _ _ _ _ [gI w_110, gR 66]
          refine v_putI (pc' := 116) (ji := 6) rfl fp_X10_37 kd_66 sf_X10_6 dX10_takeRun_113 rfl ?_
          refine w_goto (pc' := 147) dX10_takeRun_116 rfl ?_
          refine w_return rfl dX10_takeRun_147 ?_
          exact ⟨q, 2, w_110, rfl, rfl, RCT_e hR q0 q1 hs l0 d0 (hne ()) (hen ()) (by first | exact Or.inl ⟨by omega, rfl, hk_110⟩ | exact Or.inr (Or.inl ⟨by omega, by omega, by omega, rfl, rfl⟩))⟩
      · skip
        refine w_aload_n (pc' := 18) (i := 0) (by rfl) (by rfl) dX10_takeRun_17 rfl ?_
        refine w_aload_n (pc' := 19) (i := 0) (by rfl) (by rfl) dX10_takeRun_18 rfl ?_
        refine v_getI (pc' := 22) (ji := 4) rfl fg_X10_31 kd_66 dX10_takeRun_19 rfl ?_
        show Wp _ _ _ _ _ _ [gI q, gR 66]
        refine v_callVE (pc' := 25) (st' := [gI (σ 1 q)]) (d' := 0) (av := [gI q]) mi_mX10_byteAt lk_X10_43 rfl ci_X10 kd_66 rfl (Nat.le_of_ble_eq_true rfl) (Nat.le_of_ble_eq_true rfl) dX10_takeRun_22 rfl rfl (kt_byteAt (σ := gUp σ 66 4 q) ht hL q (show 0 ≤ q ∧ q < σ 66 1 by omega)) ?_
        refine v_callSE (pc' := 28) (st' := [gI (gb (pln (σ 1 q)))]) (d' := 1) (av := [gI (σ 1 q)]) ms_mX10_isPlain st_mX10_isPlain lk_X10_51 rfl rfl (Nat.le_of_ble_eq_true rfl) (Nat.le_of_ble_eq_true rfl) dX10_takeRun_25 rfl rfl (kt_isPlain (σ := gUp σ 66 4 q) (σ 1 q)) ?_
        refine v_if_eqB (pc' := 31) (t := 94) dX10_takeRun_28 rfl rfl (fun c_28 => ?_) (fun c_28 => ?_)
        · skip
          have hen : ∀ _ : Unit, q < σ 66 1 → ¬ pln (σ 1 q) := fun _ h => by omega
          have hne : ∀ _ : Unit, (σ 66 3) < q := fun _ => by
            by_cases e : q = (σ 66 3)
            · exfalso; have e2 : σ 1 q = σ 1 (σ 66 3) := by rw [e]
              omega
            · omega
          refine w_iload_n (pc' := 95) (i := 2) (by rfl) (by rfl) dX10_takeRun_94 rfl ?_
          refine w_if_ne (pc' := 98) (t := 119) dX10_takeRun_95 rfl rfl (fun c_95 => ?_) (fun c_95 => ?_)
          · skip
            refine w_iload_n (pc' := 120) (i := 1) (by rfl) (by rfl) dX10_takeRun_119 rfl ?_
            refine w_if_ne (pc' := 123) (t := 142) dX10_takeRun_120 rfl rfl (fun c_120 => ?_) (fun c_120 => ?_)
            · skip
              refine w_aload_n (pc' := 143) (i := 0) (by rfl) (by rfl) dX10_takeRun_142 rfl ?_
              refine w_iconst (pc' := 144) (by decide) dX10_takeRun_143 rfl ?_
              refine v_putI (pc' := 147) (ji := 5) rfl fp_X10_34 kd_66 sf_X10_5 dX10_takeRun_144 rfl ?_
              refine w_return rfl dX10_takeRun_147 ?_
              exact ⟨q, 1, σ 66 6, rfl, gUp_id.symm, RCT_e hR q0 q1 hs l0 d0 (hne ()) (hen ()) (Or.inr (Or.inr ⟨by omega, by omega, rfl, hv6⟩))⟩
            · skip
              refine w_iload_n (pc' := 124) (i := 2) (by rfl) (by rfl) dX10_takeRun_123 rfl ?_
              refine w_bipush (pc' := 126) (by decide) (by decide) dX10_takeRun_124 rfl ?_
              refine w_icmp_gt (pc' := 129) (t := 142) dX10_takeRun_126 rfl rfl (fun c_126 => ?_) (fun c_126 => ?_)
              · skip
                refine w_aload_n (pc' := 143) (i := 0) (by rfl) (by rfl) dX10_takeRun_142 rfl ?_
                refine w_iconst (pc' := 144) (by decide) dX10_takeRun_143 rfl ?_
                refine v_putI (pc' := 147) (ji := 5) rfl fp_X10_34 kd_66 sf_X10_5 dX10_takeRun_144 rfl ?_
                refine w_return rfl dX10_takeRun_147 ?_
                exact ⟨q, 1, σ 66 6, rfl, gUp_id.symm, RCT_e hR q0 q1 hs l0 d0 (hne ()) (hen ()) (Or.inr (Or.inr ⟨by omega, by omega, rfl, hv6⟩))⟩
              · skip
                refine w_aload_n (pc' := 130) (i := 0) (by rfl) (by rfl) dX10_takeRun_129 rfl ?_
                refine w_iconst (pc' := 131) (by decide) dX10_takeRun_130 rfl ?_
                refine v_putI (pc' := 134) (ji := 5) rfl fp_X10_34 kd_66 sf_X10_5 dX10_takeRun_131 rfl ?_
                refine w_aload_n (pc' := 135) (i := 0) (by rfl) (by rfl) dX10_takeRun_134 rfl ?_
                refine w_iload_n (pc' := 136) (i := 3) (by rfl) (by rfl) dX10_takeRun_135 rfl ?_
                refine v_putI (pc' := 139) (ji := 6) rfl fp_X10_37 kd_66 sf_X10_6 dX10_takeRun_136 rfl ?_
                refine w_goto (pc' := 147) dX10_takeRun_139 rfl ?_
                refine w_return rfl dX10_takeRun_147 ?_
                exact ⟨q, 3, n, rfl, rfl, RCT_e hR q0 q1 hs l0 d0 (hne ()) (hen ()) (by first | exact Or.inl ⟨by omega, rfl, hk_110⟩ | exact Or.inr (Or.inl ⟨by omega, by omega, by omega, rfl, rfl⟩))⟩
          · skip
            refine w_aload_n (pc' := 99) (i := 0) (by rfl) (by rfl) dX10_takeRun_98 rfl ?_
            refine w_iconst (pc' := 100) (by decide) dX10_takeRun_99 rfl ?_
            refine v_putI (pc' := 103) (ji := 5) rfl fp_X10_34 kd_66 sf_X10_5 dX10_takeRun_100 rfl ?_
            refine w_aload_n (pc' := 104) (i := 0) (by rfl) (by rfl) dX10_takeRun_103 rfl ?_
            refine w_aload_n (pc' := 105) (i := 0) (by rfl) (by rfl) dX10_takeRun_104 rfl ?_
            refine w_aload_n (pc' := 106) (i := 0) (by rfl) (by rfl) dX10_takeRun_105 rfl ?_
            refine v_getI (pc' := 109) (ji := 3) rfl fg_X10_40 kd_66 dX10_takeRun_106 rfl ?_
            show Wp _ _ _ _ _ _ [gI (σ 66 3), gR 66, gR 66]
            refine w_iload_n (pc' := 110) (i := 1) (by rfl) (by rfl) dX10_takeRun_109 rfl ?_
            refine w_callV (pc' := 113) (d' := 5) (av := [gI (σ 66 3), gI l]) mi_mX10_wordFrom lk_X10_66 rfl ci_X10 kd_66 rfl (Nat.le_of_ble_eq_true rfl) (Nat.le_of_ble_eq_true rfl) dX10_takeRun_110 rfl (kt_wordFrom (σ := gUp (gUp σ 66 4 q) 66 5 2) ht hL (σ 66 3) l (show 0 ≤ (σ 66 3) ∧ (σ 66 3) + l ≤ σ 66 1 by omega) (by have := hne (); omega)) (fun v_110 σ_110 q_110 => ?_)
            obtain ⟨⟨w_110, rfl, hk_110⟩, rfl⟩ := q_110
            show Wp _ _ _ _ _ _ [gI w_110, gR 66]
            refine v_putI (pc' := 116) (ji := 6) rfl fp_X10_37 kd_66 sf_X10_6 dX10_takeRun_113 rfl ?_
            refine w_goto (pc' := 147) dX10_takeRun_116 rfl ?_
            refine w_return rfl dX10_takeRun_147 ?_
            exact ⟨q, 2, w_110, rfl, rfl, RCT_e hR q0 q1 hs l0 d0 (hne ()) (hen ()) (by first | exact Or.inl ⟨by omega, rfl, hk_110⟩ | exact Or.inr (Or.inl ⟨by omega, by omega, by omega, rfl, rfl⟩))⟩
        · skip
          refine w_aload_n (pc' := 32) (i := 0) (by rfl) (by rfl) dX10_takeRun_31 rfl ?_
          refine w_aload_n (pc' := 33) (i := 0) (by rfl) (by rfl) dX10_takeRun_32 rfl ?_
          refine v_getI (pc' := 36) (ji := 4) rfl fg_X10_31 kd_66 dX10_takeRun_33 rfl ?_
          show Wp _ _ _ _ _ _ [gI q, gR 66]
          refine v_callVE (pc' := 39) (st' := [gI (σ 1 q)]) (d' := 0) (av := [gI q]) mi_mX10_byteAt lk_X10_43 rfl ci_X10 kd_66 rfl (Nat.le_of_ble_eq_true rfl) (Nat.le_of_ble_eq_true rfl) dX10_takeRun_36 rfl rfl (kt_byteAt (σ := gUp σ 66 4 q) ht hL q (show 0 ≤ q ∧ q < σ 66 1 by omega)) ?_
          refine v_callSE (pc' := 42) (st' := [gI (gb (ltr (σ 1 q)))]) (d' := 0) (av := [gI (σ 1 q)]) ms_mX10_isLetter st_mX10_isLetter lk_X10_60 rfl rfl (Nat.le_of_ble_eq_true rfl) (Nat.le_of_ble_eq_true rfl) dX10_takeRun_39 rfl rfl (kt_isLetter (σ := gUp σ 66 4 q) (σ 1 q)) ?_
          refine v_if_eqB (pc' := 45) (t := 51) dX10_takeRun_42 rfl rfl (fun c_42 => ?_) (fun c_42 => ?_)
          · skip
            refine v_iinc (pc' := 54) (x := d) (ls' := [gR 66, gI l, gI (d + 1), gI n]) (by omega) (by decide) (by rfl) (by rfl) dX10_takeRun_51 rfl ?_
            refine w_iload_n (pc' := 55) (i := 2) (by rfl) (by rfl) dX10_takeRun_54 rfl ?_
            refine w_bipush (pc' := 57) (by decide) (by decide) dX10_takeRun_55 rfl ?_
            refine w_icmp_gt (pc' := 60) (t := 79) dX10_takeRun_57 rfl rfl (fun c_57 => ?_) (fun c_57 => ?_)
            · skip
              refine w_iload_n (pc' := 80) (i := 3) (by rfl) (by rfl) dX10_takeRun_79 rfl ?_
              refine w_istore_n (pc' := 81) (i := 3) (ls' := [gR 66, gI l, gI (d + 1), gI n]) (by rfl) (by decide) (by rfl) dX10_takeRun_80 rfl ?_
              refine w_aload_n (pc' := 82) (i := 0) (by rfl) (by rfl) dX10_takeRun_81 rfl ?_
              refine w_dup (pc' := 83) dX10_takeRun_82 rfl ?_
              refine v_getI (pc' := 86) (ji := 4) rfl fg_X10_31 kd_66 dX10_takeRun_83 rfl ?_
              show Wp _ _ _ _ _ _ [gI q, gR 66]
              refine w_iconst (pc' := 87) (by decide) dX10_takeRun_86 rfl ?_
              refine v_iadd (pc' := 88) (by omega) dX10_takeRun_87 rfl ?_
              refine v_putI (pc' := 91) (ji := 4) rfl fp_X10_31 kd_66 sf_X10_4 dX10_takeRun_88 rfl ?_
              refine Wp.heq (σ' := gUp σ 66 4 (q + 1)) gUp_same ?_
              refine w_goto (pc' := 6) dX10_takeRun_91 rfl ?_
              exact ih_6 _ (by omega) l (d + 1) n (q + 1) rfl (by omega) (by omega) (by omega) (by omega) (by omega) (by first | omega) (by first | omega | (have := hps () (by omega); omega)) (by first | exact RCT_l hR q0 l0 (by omega) | exact RCT_d hR q0 d0 (by omega) (fun _ => rfl) | exact RCT_d hR q0 d0 (by omega) (fun _ => by exfalso; omega))
            · skip
              refine w_iload_n (pc' := 61) (i := 3) (by rfl) (by rfl) dX10_takeRun_60 rfl ?_
              refine w_bipush (pc' := 63) (by decide) (by decide) dX10_takeRun_61 rfl ?_
              refine v_imul (pc' := 64) (by have := hps () (by omega); omega) dX10_takeRun_63 rfl ?_
              refine w_aload_n (pc' := 65) (i := 0) (by rfl) (by rfl) dX10_takeRun_64 rfl ?_
              refine w_aload_n (pc' := 66) (i := 0) (by rfl) (by rfl) dX10_takeRun_65 rfl ?_
              refine v_getI (pc' := 69) (ji := 4) rfl fg_X10_31 kd_66 dX10_takeRun_66 rfl ?_
              show Wp _ _ _ _ _ _ [gI q, gR 66, gI (n * 10)]
              refine v_callVE (pc' := 72) (st' := [gI (σ 1 q), gI (n * 10)]) (d' := 0) (av := [gI q]) mi_mX10_byteAt lk_X10_43 rfl ci_X10 kd_66 rfl (Nat.le_of_ble_eq_true rfl) (Nat.le_of_ble_eq_true rfl) dX10_takeRun_69 rfl rfl (kt_byteAt (σ := gUp σ 66 4 q) ht hL q (show 0 ≤ q ∧ q < σ 66 1 by omega)) ?_
              refine v_iadd (pc' := 73) (by have := hps () (by omega); omega) dX10_takeRun_72 rfl ?_
              refine w_bipush (pc' := 75) (by decide) (by decide) dX10_takeRun_73 rfl ?_
              refine v_isub (pc' := 76) (by have := hps () (by omega); omega) dX10_takeRun_75 rfl ?_
              refine w_goto (pc' := 80) dX10_takeRun_76 rfl ?_
              refine w_istore_n (pc' := 81) (i := 3) (ls' := [gR 66, gI l, gI (d + 1), gI (((n * 10) + (σ 1 q)) - 48)]) (by rfl) (by decide) (by rfl) dX10_takeRun_80 rfl ?_
              refine w_aload_n (pc' := 82) (i := 0) (by rfl) (by rfl) dX10_takeRun_81 rfl ?_
              refine w_dup (pc' := 83) dX10_takeRun_82 rfl ?_
              refine v_getI (pc' := 86) (ji := 4) rfl fg_X10_31 kd_66 dX10_takeRun_83 rfl ?_
              show Wp _ _ _ _ _ _ [gI q, gR 66]
              refine w_iconst (pc' := 87) (by decide) dX10_takeRun_86 rfl ?_
              refine v_iadd (pc' := 88) (by omega) dX10_takeRun_87 rfl ?_
              refine v_putI (pc' := 91) (ji := 4) rfl fp_X10_31 kd_66 sf_X10_4 dX10_takeRun_88 rfl ?_
              refine Wp.heq (σ' := gUp σ 66 4 (q + 1)) gUp_same ?_
              refine w_goto (pc' := 6) dX10_takeRun_91 rfl ?_
              exact ih_6 _ (by omega) l (d + 1) (((n * 10) + (σ 1 q)) - 48) (q + 1) rfl (by omega) (by omega) (by omega) (by omega) (by omega) (by first | omega) (by first | omega | (have := hps () (by omega); omega)) (by first | exact RCT_l hR q0 l0 (by omega) | exact RCT_d hR q0 d0 (by omega) (fun _ => rfl) | exact RCT_d hR q0 d0 (by omega) (fun _ => by exfalso; omega))
          · skip
            refine v_iinc (pc' := 48) (x := l) (ls' := [gR 66, gI (l + 1), gI d, gI n]) (by omega) (by decide) (by rfl) (by rfl) dX10_takeRun_45 rfl ?_
            refine w_goto (pc' := 81) dX10_takeRun_48 rfl ?_
            refine w_aload_n (pc' := 82) (i := 0) (by rfl) (by rfl) dX10_takeRun_81 rfl ?_
            refine w_dup (pc' := 83) dX10_takeRun_82 rfl ?_
            refine v_getI (pc' := 86) (ji := 4) rfl fg_X10_31 kd_66 dX10_takeRun_83 rfl ?_
            show Wp _ _ _ _ _ _ [gI q, gR 66]
            refine w_iconst (pc' := 87) (by decide) dX10_takeRun_86 rfl ?_
            refine v_iadd (pc' := 88) (by omega) dX10_takeRun_87 rfl ?_
            refine v_putI (pc' := 91) (ji := 4) rfl fp_X10_31 kd_66 sf_X10_4 dX10_takeRun_88 rfl ?_
            refine Wp.heq (σ' := gUp σ 66 4 (q + 1)) gUp_same ?_
            refine w_goto (pc' := 6) dX10_takeRun_91 rfl ?_
            exact ih_6 _ (by omega) (l + 1) d n (q + 1) rfl (by omega) (by omega) (by omega) (by omega) (by omega) (by first | omega) (by first | omega | (have := hps () (by omega); omega)) (by first | exact RCT_l hR q0 l0 (by omega) | exact RCT_d hR q0 d0 (by omega) (fun _ => rfl) | exact RCT_d hR q0 d0 (by omega) (fun _ => by exfalso; omega))
  refine Wp.heq (σ' := gUp σ 66 4 (σ 66 4)) gUp_id.symm ?_
  exact hl_6 _ 0 0 0 (σ 66 4) rfl (by omega) (by omega) (by omega) (by omega) (by omega) (by omega) (by decide) (by rw [hpp]; exact RCT_0)
theorem kt_advance {σ : gH} (ht : σ 66 0 = 1) (hL : σ 66 1 ≤ 540) (hE : (σ 66 2) ≤ σ 66 1) (h0 : 0 ≤ (σ 66 4)) : Mt mX10_advance 7 [gR 66] σ (fun v σ' => ∃ a q k w, v = gX 1 ∧ σ' = gUp (gUp (gUp (gUp σ 66 3 a) 66 4 q) 66 6 w) 66 5 k ∧ TOKN (σ 1) (σ 66 1) (σ 66 2) (σ 66 4) a q k w) := by
  refine Mt.walk (ls := [gR 66]) pn_X10 rfl (fun _ _ h => by obtain ⟨_, _, _, _, h, _⟩ := h; cases h) (Nat.le_of_ble_eq_true rfl) rfl ?_
  refine w_aload_n (pc' := 1) (i := 0) (by rfl) (by rfl) dX10_advance_0 rfl ?_
  refine w_aload_n (pc' := 2) (i := 0) (by rfl) (by rfl) dX10_advance_1 rfl ?_
  refine v_getI (pc' := 5) (ji := 4) rfl fg_X10_31 kd_66 dX10_advance_2 rfl ?_
  refine v_putI (pc' := 8) (ji := 3) rfl fp_X10_40 kd_66 sf_X10_3 dX10_advance_5 rfl ?_
  have hl_8 : ∀ (mm : Nat) (a : Int), ((σ 66 2) - a).toNat = mm → ((σ 66 4) ≤ a) → ((σ 66 4) ≤ (σ 66 2) → a ≤ (σ 66 2)) → (∀ i, (σ 66 4) ≤ i → i < a → blk (σ 1 i)) → Wp mX10_advance 7 (fun v σ' => ∃ a q k w, v = gX 1 ∧ σ' = gUp (gUp (gUp (gUp σ 66 3 a) 66 4 q) 66 6 w) 66 5 k ∧ TOKN (σ 1) (σ 66 1) (σ 66 2) (σ 66 4) a q k w) (gUp σ 66 3 a) 8 [gR 66] [] := by
    intro m_8
    induction m_8 using Nat.strongRecOn with
    | _ m_8 ih_8 =>
      intro a hmeas_8 a0 a1 hb
      refine w_aload_n (pc' := 9) (i := 0) (by rfl) (by rfl) dX10_advance_8 rfl ?_
      refine v_getI (pc' := 12) (ji := 3) rfl fg_X10_40 kd_66 dX10_advance_9 rfl ?_
      show Wp _ _ _ _ _ _ [gI a]
      refine w_aload_n (pc' := 13) (i := 0) (by rfl) (by rfl) dX10_advance_12 rfl ?_
      refine v_getI (pc' := 16) (ji := 2) rfl fg_X10_28 kd_66 dX10_advance_13 rfl ?_
      show Wp _ _ _ _ _ _ [gI (σ 66 2), gI a]
      refine w_icmp_ge (pc' := 19) (t := 46) dX10_advance_16 rfl rfl (fun c_16 => ?_) (fun c_16 => ?_)
      · skip
        refine w_aload_n (pc' := 47) (i := 0) (by rfl) (by rfl) dX10_advance_46 rfl ?_
        refine w_aload_n (pc' := 48) (i := 0) (by rfl) (by rfl) dX10_advance_47 rfl ?_
        refine v_getI (pc' := 51) (ji := 3) rfl fg_X10_40 kd_66 dX10_advance_48 rfl ?_
        show Wp _ _ _ _ _ _ [gI a, gR 66]
        refine v_putI (pc' := 54) (ji := 4) rfl fp_X10_31 kd_66 sf_X10_4 dX10_advance_51 rfl ?_
        refine w_aload_n (pc' := 55) (i := 0) (by rfl) (by rfl) dX10_advance_54 rfl ?_
        refine w_iconst (pc' := 56) (by decide) dX10_advance_55 rfl ?_
        refine v_putI (pc' := 59) (ji := 6) rfl fp_X10_37 kd_66 sf_X10_6 dX10_advance_56 rfl ?_
        refine w_aload_n (pc' := 60) (i := 0) (by rfl) (by rfl) dX10_advance_59 rfl ?_
        refine v_getI (pc' := 63) (ji := 3) rfl fg_X10_40 kd_66 dX10_advance_60 rfl ?_
        show Wp _ _ _ _ _ _ [gI a]
        refine w_aload_n (pc' := 64) (i := 0) (by rfl) (by rfl) dX10_advance_63 rfl ?_
        refine v_getI (pc' := 67) (ji := 2) rfl fg_X10_28 kd_66 dX10_advance_64 rfl ?_
        show Wp _ _ _ _ _ _ [gI (σ 66 2), gI a]
        refine w_icmp_lt (pc' := 70) (t := 94) dX10_advance_67 rfl rfl (fun c_67 => ?_) (fun c_67 => ?_)
        · skip
          refine w_aload_n (pc' := 95) (i := 0) (by rfl) (by rfl) dX10_advance_94 rfl ?_
          refine w_aload_n (pc' := 96) (i := 0) (by rfl) (by rfl) dX10_advance_95 rfl ?_
          refine v_getI (pc' := 99) (ji := 3) rfl fg_X10_40 kd_66 dX10_advance_96 rfl ?_
          show Wp _ _ _ _ _ _ [gI a, gR 66]
          refine v_callVE (pc' := 102) (st' := [gI (σ 1 a)]) (d' := 0) (av := [gI a]) mi_mX10_byteAt lk_X10_43 rfl ci_X10 kd_66 rfl (Nat.le_of_ble_eq_true rfl) (Nat.le_of_ble_eq_true rfl) dX10_advance_99 rfl rfl (kt_byteAt (σ := gUp (gUp (gUp σ 66 3 a) 66 4 a) 66 6 (-1)) ht hL a (show 0 ≤ a ∧ a < σ 66 1 by omega)) ?_
          refine v_callSE (pc' := 105) (st' := [gI (gb (pln (σ 1 a)))]) (d' := 1) (av := [gI (σ 1 a)]) ms_mX10_isPlain st_mX10_isPlain lk_X10_51 rfl rfl (Nat.le_of_ble_eq_true rfl) (Nat.le_of_ble_eq_true rfl) dX10_advance_102 rfl rfl (kt_isPlain (σ := gUp (gUp (gUp σ 66 3 a) 66 4 a) 66 6 (-1)) (σ 1 a)) ?_
          refine v_if_eqB (pc' := 108) (t := 115) dX10_advance_105 rfl rfl (fun c_105 => ?_) (fun c_105 => ?_)
          · skip
            refine w_aload_n (pc' := 116) (i := 0) (by rfl) (by rfl) dX10_advance_115 rfl ?_
            refine w_aload_n (pc' := 117) (i := 0) (by rfl) (by rfl) dX10_advance_116 rfl ?_
            refine v_getI (pc' := 120) (ji := 3) rfl fg_X10_40 kd_66 dX10_advance_117 rfl ?_
            show Wp _ _ _ _ _ _ [gI a, gR 66]
            refine w_iconst (pc' := 121) (by decide) dX10_advance_120 rfl ?_
            refine v_iadd (pc' := 122) (by omega) dX10_advance_121 rfl ?_
            refine v_putI (pc' := 125) (ji := 4) rfl fp_X10_31 kd_66 sf_X10_4 dX10_advance_122 rfl ?_
            refine Wp.heq (σ' := gUp (gUp (gUp σ 66 3 a) 66 4 (a + 1)) 66 6 (-1)) ((gUp_ci (by decide)).trans (congrArg (fun z => gUp z 66 6 (-1)) gUp_same)) ?_
            refine w_aload_n (pc' := 126) (i := 0) (by rfl) (by rfl) dX10_advance_125 rfl ?_
            refine w_aload_n (pc' := 127) (i := 0) (by rfl) (by rfl) dX10_advance_126 rfl ?_
            refine w_aload_n (pc' := 128) (i := 0) (by rfl) (by rfl) dX10_advance_127 rfl ?_
            refine v_getI (pc' := 131) (ji := 3) rfl fg_X10_40 kd_66 dX10_advance_128 rfl ?_
            show Wp _ _ _ _ _ _ [gI a, gR 66, gR 66]
            refine v_callVE (pc' := 134) (st' := [gI (σ 1 a), gR 66]) (d' := 0) (av := [gI a]) mi_mX10_byteAt lk_X10_43 rfl ci_X10 kd_66 rfl (Nat.le_of_ble_eq_true rfl) (Nat.le_of_ble_eq_true rfl) dX10_advance_131 rfl rfl (kt_byteAt (σ := gUp (gUp (gUp σ 66 3 a) 66 4 (a + 1)) 66 6 (-1)) ht hL a (show 0 ≤ a ∧ a < σ 66 1 by omega)) ?_
            refine v_callSE (pc' := 137) (st' := [gI (gb (sgn (σ 1 a))), gR 66]) (d' := 0) (av := [gI (σ 1 a)]) ms_mX10_isSign st_mX10_isSign lk_X10_57 rfl rfl (Nat.le_of_ble_eq_true rfl) (Nat.le_of_ble_eq_true rfl) dX10_advance_134 rfl rfl (kt_isSign (σ := gUp (gUp (gUp σ 66 3 a) 66 4 (a + 1)) 66 6 (-1)) (σ 1 a)) ?_
            refine v_if_eqB (pc' := 140) (t := 151) dX10_advance_137 rfl rfl (fun c_137 => ?_) (fun c_137 => ?_)
            · skip
              refine w_iconst (pc' := 152) (by decide) dX10_advance_151 rfl ?_
              refine v_putI (pc' := 155) (ji := 5) rfl fp_X10_34 kd_66 sf_X10_5 dX10_advance_152 rfl ?_
              refine w_return rfl dX10_advance_155 ?_
              exact ⟨a, (a + 1), 1, (-1), rfl, rfl, Or.inr ⟨hb, a0, by omega, by omega, Or.inr ⟨by omega, rfl, rfl, by first | (exact Or.inl ⟨by omega, rfl⟩) | exact Or.inr ⟨by omega, rfl⟩⟩⟩⟩
            · skip
              refine w_aload_n (pc' := 141) (i := 0) (by rfl) (by rfl) dX10_advance_140 rfl ?_
              refine w_aload_n (pc' := 142) (i := 0) (by rfl) (by rfl) dX10_advance_141 rfl ?_
              refine v_getI (pc' := 145) (ji := 3) rfl fg_X10_40 kd_66 dX10_advance_142 rfl ?_
              show Wp _ _ _ _ _ _ [gI a, gR 66, gR 66]
              refine v_callVE (pc' := 148) (st' := [gI (σ 1 a), gR 66]) (d' := 0) (av := [gI a]) mi_mX10_byteAt lk_X10_43 rfl ci_X10 kd_66 rfl (Nat.le_of_ble_eq_true rfl) (Nat.le_of_ble_eq_true rfl) dX10_advance_145 rfl rfl (kt_byteAt (σ := gUp (gUp (gUp σ 66 3 a) 66 4 (a + 1)) 66 6 (-1)) ht hL a (show 0 ≤ a ∧ a < σ 66 1 by omega)) ?_
              refine w_goto (pc' := 152) dX10_advance_148 rfl ?_
              refine v_putI (pc' := 155) (ji := 5) rfl fp_X10_34 kd_66 sf_X10_5 dX10_advance_152 rfl ?_
              refine w_return rfl dX10_advance_155 ?_
              exact ⟨a, (a + 1), (σ 1 a), (-1), rfl, rfl, Or.inr ⟨hb, a0, by omega, by omega, Or.inr ⟨by omega, rfl, rfl, by first | (exact Or.inl ⟨by omega, rfl⟩) | exact Or.inr ⟨by omega, rfl⟩⟩⟩⟩
          · skip
            refine w_aload_n (pc' := 109) (i := 0) (by rfl) (by rfl) dX10_advance_108 rfl ?_
            refine w_callV (pc' := 112) (d' := 6) (av := []) mi_mX10_takeRun lk_X10_54 rfl ci_X10 kd_66 rfl (Nat.le_of_ble_eq_true rfl) (Nat.le_of_ble_eq_true rfl) dX10_advance_109 rfl (kt_takeRun (σ := gUp (gUp (gUp σ 66 3 a) 66 4 a) 66 6 (-1)) ht hL (show 0 ≤ a ∧ a < σ 66 1 by omega) rfl (show pln (σ 1 a) by omega) rfl) (fun v_109 σ_109 q_109 => ?_)
            obtain ⟨q_109, k_109, w_109, rfl, rfl, hr_109⟩ := q_109
            refine Wp.heq (σ' := gUp (gUp (gUp (gUp σ 66 3 a) 66 4 q_109) 66 6 w_109) 66 5 k_109) ((congrArg (fun z => gUp z 66 6 w_109) ((congrArg (fun z => gUp z 66 5 k_109) ((gUp_ci (by decide)).trans (congrArg (fun z => gUp z 66 6 (-1)) gUp_same))).trans rfl)).trans ((gUp_ci (by decide)).trans (congrArg (fun z => gUp z 66 5 k_109) gUp_same))) ?_
            show Wp _ _ _ _ _ _ []
            refine w_goto (pc' := 155) dX10_advance_112 rfl ?_
            refine w_return rfl dX10_advance_155 ?_
            exact ⟨a, q_109, k_109, w_109, rfl, rfl, Or.inr ⟨hb, a0, by omega, by omega, Or.inl ⟨by first | exact c_105 | omega, hr_109⟩⟩⟩
        · skip
          refine w_aload_n (pc' := 71) (i := 0) (by rfl) (by rfl) dX10_advance_70 rfl ?_
          refine w_aload_n (pc' := 72) (i := 0) (by rfl) (by rfl) dX10_advance_71 rfl ?_
          refine v_getI (pc' := 75) (ji := 2) rfl fg_X10_28 kd_66 dX10_advance_72 rfl ?_
          show Wp _ _ _ _ _ _ [gI (σ 66 2), gR 66]
          refine v_putI (pc' := 78) (ji := 3) rfl fp_X10_40 kd_66 sf_X10_3 dX10_advance_75 rfl ?_
          refine Wp.heq (σ' := gUp (gUp (gUp σ 66 3 (σ 66 2)) 66 4 a) 66 6 (-1)) ((gUp_ci (by decide)).trans (congrArg (fun z => gUp z 66 6 (-1)) ((gUp_ci (by decide)).trans (congrArg (fun z => gUp z 66 4 a) gUp_same)))) ?_
          refine w_aload_n (pc' := 79) (i := 0) (by rfl) (by rfl) dX10_advance_78 rfl ?_
          refine w_aload_n (pc' := 80) (i := 0) (by rfl) (by rfl) dX10_advance_79 rfl ?_
          refine v_getI (pc' := 83) (ji := 2) rfl fg_X10_28 kd_66 dX10_advance_80 rfl ?_
          show Wp _ _ _ _ _ _ [gI (σ 66 2), gR 66]
          refine v_putI (pc' := 86) (ji := 4) rfl fp_X10_31 kd_66 sf_X10_4 dX10_advance_83 rfl ?_
          refine Wp.heq (σ' := gUp (gUp (gUp σ 66 3 (σ 66 2)) 66 4 (σ 66 2)) 66 6 (-1)) ((gUp_ci (by decide)).trans (congrArg (fun z => gUp z 66 6 (-1)) gUp_same)) ?_
          refine w_aload_n (pc' := 87) (i := 0) (by rfl) (by rfl) dX10_advance_86 rfl ?_
          refine w_iconst (pc' := 88) (by decide) dX10_advance_87 rfl ?_
          refine v_putI (pc' := 91) (ji := 5) rfl fp_X10_34 kd_66 sf_X10_5 dX10_advance_88 rfl ?_
          refine w_goto (pc' := 155) dX10_advance_91 rfl ?_
          refine w_return rfl dX10_advance_155 ?_
          exact ⟨(σ 66 2), (σ 66 2), 0, (-1), rfl, rfl, Or.inl ⟨fun i x y => hb i x (by omega), rfl, rfl, rfl, rfl⟩⟩
      · skip
        refine w_aload_n (pc' := 20) (i := 0) (by rfl) (by rfl) dX10_advance_19 rfl ?_
        refine w_aload_n (pc' := 21) (i := 0) (by rfl) (by rfl) dX10_advance_20 rfl ?_
        refine v_getI (pc' := 24) (ji := 3) rfl fg_X10_40 kd_66 dX10_advance_21 rfl ?_
        show Wp _ _ _ _ _ _ [gI a, gR 66]
        refine v_callVE (pc' := 27) (st' := [gI (σ 1 a)]) (d' := 0) (av := [gI a]) mi_mX10_byteAt lk_X10_43 rfl ci_X10 kd_66 rfl (Nat.le_of_ble_eq_true rfl) (Nat.le_of_ble_eq_true rfl) dX10_advance_24 rfl rfl (kt_byteAt (σ := gUp σ 66 3 a) ht hL a (show 0 ≤ a ∧ a < σ 66 1 by omega)) ?_
        refine v_callSE (pc' := 30) (st' := [gI (gb (blk (σ 1 a)))]) (d' := 0) (av := [gI (σ 1 a)]) ms_mX10_isBlank st_mX10_isBlank lk_X10_47 rfl rfl (Nat.le_of_ble_eq_true rfl) (Nat.le_of_ble_eq_true rfl) dX10_advance_27 rfl rfl (kt_isBlank (σ := gUp σ 66 3 a) (σ 1 a)) ?_
        refine v_if_eqB (pc' := 33) (t := 46) dX10_advance_30 rfl rfl (fun c_30 => ?_) (fun c_30 => ?_)
        · skip
          refine w_aload_n (pc' := 47) (i := 0) (by rfl) (by rfl) dX10_advance_46 rfl ?_
          refine w_aload_n (pc' := 48) (i := 0) (by rfl) (by rfl) dX10_advance_47 rfl ?_
          refine v_getI (pc' := 51) (ji := 3) rfl fg_X10_40 kd_66 dX10_advance_48 rfl ?_
          show Wp _ _ _ _ _ _ [gI a, gR 66]
          refine v_putI (pc' := 54) (ji := 4) rfl fp_X10_31 kd_66 sf_X10_4 dX10_advance_51 rfl ?_
          refine w_aload_n (pc' := 55) (i := 0) (by rfl) (by rfl) dX10_advance_54 rfl ?_
          refine w_iconst (pc' := 56) (by decide) dX10_advance_55 rfl ?_
          refine v_putI (pc' := 59) (ji := 6) rfl fp_X10_37 kd_66 sf_X10_6 dX10_advance_56 rfl ?_
          refine w_aload_n (pc' := 60) (i := 0) (by rfl) (by rfl) dX10_advance_59 rfl ?_
          refine v_getI (pc' := 63) (ji := 3) rfl fg_X10_40 kd_66 dX10_advance_60 rfl ?_
          show Wp _ _ _ _ _ _ [gI a]
          refine w_aload_n (pc' := 64) (i := 0) (by rfl) (by rfl) dX10_advance_63 rfl ?_
          refine v_getI (pc' := 67) (ji := 2) rfl fg_X10_28 kd_66 dX10_advance_64 rfl ?_
          show Wp _ _ _ _ _ _ [gI (σ 66 2), gI a]
          refine w_icmp_lt (pc' := 70) (t := 94) dX10_advance_67 rfl rfl (fun c_67 => ?_) (fun c_67 => ?_)
          · skip
            refine w_aload_n (pc' := 95) (i := 0) (by rfl) (by rfl) dX10_advance_94 rfl ?_
            refine w_aload_n (pc' := 96) (i := 0) (by rfl) (by rfl) dX10_advance_95 rfl ?_
            refine v_getI (pc' := 99) (ji := 3) rfl fg_X10_40 kd_66 dX10_advance_96 rfl ?_
            show Wp _ _ _ _ _ _ [gI a, gR 66]
            refine v_callVE (pc' := 102) (st' := [gI (σ 1 a)]) (d' := 0) (av := [gI a]) mi_mX10_byteAt lk_X10_43 rfl ci_X10 kd_66 rfl (Nat.le_of_ble_eq_true rfl) (Nat.le_of_ble_eq_true rfl) dX10_advance_99 rfl rfl (kt_byteAt (σ := gUp (gUp (gUp σ 66 3 a) 66 4 a) 66 6 (-1)) ht hL a (show 0 ≤ a ∧ a < σ 66 1 by omega)) ?_
            refine v_callSE (pc' := 105) (st' := [gI (gb (pln (σ 1 a)))]) (d' := 1) (av := [gI (σ 1 a)]) ms_mX10_isPlain st_mX10_isPlain lk_X10_51 rfl rfl (Nat.le_of_ble_eq_true rfl) (Nat.le_of_ble_eq_true rfl) dX10_advance_102 rfl rfl (kt_isPlain (σ := gUp (gUp (gUp σ 66 3 a) 66 4 a) 66 6 (-1)) (σ 1 a)) ?_
            refine v_if_eqB (pc' := 108) (t := 115) dX10_advance_105 rfl rfl (fun c_105 => ?_) (fun c_105 => ?_)
            · skip
              refine w_aload_n (pc' := 116) (i := 0) (by rfl) (by rfl) dX10_advance_115 rfl ?_
              refine w_aload_n (pc' := 117) (i := 0) (by rfl) (by rfl) dX10_advance_116 rfl ?_
              refine v_getI (pc' := 120) (ji := 3) rfl fg_X10_40 kd_66 dX10_advance_117 rfl ?_
              show Wp _ _ _ _ _ _ [gI a, gR 66]
              refine w_iconst (pc' := 121) (by decide) dX10_advance_120 rfl ?_
              refine v_iadd (pc' := 122) (by omega) dX10_advance_121 rfl ?_
              refine v_putI (pc' := 125) (ji := 4) rfl fp_X10_31 kd_66 sf_X10_4 dX10_advance_122 rfl ?_
              refine Wp.heq (σ' := gUp (gUp (gUp σ 66 3 a) 66 4 (a + 1)) 66 6 (-1)) ((gUp_ci (by decide)).trans (congrArg (fun z => gUp z 66 6 (-1)) gUp_same)) ?_
              refine w_aload_n (pc' := 126) (i := 0) (by rfl) (by rfl) dX10_advance_125 rfl ?_
              refine w_aload_n (pc' := 127) (i := 0) (by rfl) (by rfl) dX10_advance_126 rfl ?_
              refine w_aload_n (pc' := 128) (i := 0) (by rfl) (by rfl) dX10_advance_127 rfl ?_
              refine v_getI (pc' := 131) (ji := 3) rfl fg_X10_40 kd_66 dX10_advance_128 rfl ?_
              show Wp _ _ _ _ _ _ [gI a, gR 66, gR 66]
              refine v_callVE (pc' := 134) (st' := [gI (σ 1 a), gR 66]) (d' := 0) (av := [gI a]) mi_mX10_byteAt lk_X10_43 rfl ci_X10 kd_66 rfl (Nat.le_of_ble_eq_true rfl) (Nat.le_of_ble_eq_true rfl) dX10_advance_131 rfl rfl (kt_byteAt (σ := gUp (gUp (gUp σ 66 3 a) 66 4 (a + 1)) 66 6 (-1)) ht hL a (show 0 ≤ a ∧ a < σ 66 1 by omega)) ?_
              refine v_callSE (pc' := 137) (st' := [gI (gb (sgn (σ 1 a))), gR 66]) (d' := 0) (av := [gI (σ 1 a)]) ms_mX10_isSign st_mX10_isSign lk_X10_57 rfl rfl (Nat.le_of_ble_eq_true rfl) (Nat.le_of_ble_eq_true rfl) dX10_advance_134 rfl rfl (kt_isSign (σ := gUp (gUp (gUp σ 66 3 a) 66 4 (a + 1)) 66 6 (-1)) (σ 1 a)) ?_
              refine v_if_eqB (pc' := 140) (t := 151) dX10_advance_137 rfl rfl (fun c_137 => ?_) (fun c_137 => ?_)
              · skip
                refine w_iconst (pc' := 152) (by decide) dX10_advance_151 rfl ?_
                refine v_putI (pc' := 155) (ji := 5) rfl fp_X10_34 kd_66 sf_X10_5 dX10_advance_152 rfl ?_
                refine w_return rfl dX10_advance_155 ?_
                exact ⟨a, (a + 1), 1, (-1), rfl, rfl, Or.inr ⟨hb, a0, by omega, by omega, Or.inr ⟨by omega, rfl, rfl, by first | (exact Or.inl ⟨by omega, rfl⟩) | exact Or.inr ⟨by omega, rfl⟩⟩⟩⟩
              · skip
                refine w_aload_n (pc' := 141) (i := 0) (by rfl) (by rfl) dX10_advance_140 rfl ?_
                refine w_aload_n (pc' := 142) (i := 0) (by rfl) (by rfl) dX10_advance_141 rfl ?_
                refine v_getI (pc' := 145) (ji := 3) rfl fg_X10_40 kd_66 dX10_advance_142 rfl ?_
                show Wp _ _ _ _ _ _ [gI a, gR 66, gR 66]
                refine v_callVE (pc' := 148) (st' := [gI (σ 1 a), gR 66]) (d' := 0) (av := [gI a]) mi_mX10_byteAt lk_X10_43 rfl ci_X10 kd_66 rfl (Nat.le_of_ble_eq_true rfl) (Nat.le_of_ble_eq_true rfl) dX10_advance_145 rfl rfl (kt_byteAt (σ := gUp (gUp (gUp σ 66 3 a) 66 4 (a + 1)) 66 6 (-1)) ht hL a (show 0 ≤ a ∧ a < σ 66 1 by omega)) ?_
                refine w_goto (pc' := 152) dX10_advance_148 rfl ?_
                refine v_putI (pc' := 155) (ji := 5) rfl fp_X10_34 kd_66 sf_X10_5 dX10_advance_152 rfl ?_
                refine w_return rfl dX10_advance_155 ?_
                exact ⟨a, (a + 1), (σ 1 a), (-1), rfl, rfl, Or.inr ⟨hb, a0, by omega, by omega, Or.inr ⟨by omega, rfl, rfl, by first | (exact Or.inl ⟨by omega, rfl⟩) | exact Or.inr ⟨by omega, rfl⟩⟩⟩⟩
            · skip
              refine w_aload_n (pc' := 109) (i := 0) (by rfl) (by rfl) dX10_advance_108 rfl ?_
              refine w_callV (pc' := 112) (d' := 6) (av := []) mi_mX10_takeRun lk_X10_54 rfl ci_X10 kd_66 rfl (Nat.le_of_ble_eq_true rfl) (Nat.le_of_ble_eq_true rfl) dX10_advance_109 rfl (kt_takeRun (σ := gUp (gUp (gUp σ 66 3 a) 66 4 a) 66 6 (-1)) ht hL (show 0 ≤ a ∧ a < σ 66 1 by omega) rfl (show pln (σ 1 a) by omega) rfl) (fun v_109 σ_109 q_109 => ?_)
              obtain ⟨q_109, k_109, w_109, rfl, rfl, hr_109⟩ := q_109
              refine Wp.heq (σ' := gUp (gUp (gUp (gUp σ 66 3 a) 66 4 q_109) 66 6 w_109) 66 5 k_109) ((congrArg (fun z => gUp z 66 6 w_109) ((congrArg (fun z => gUp z 66 5 k_109) ((gUp_ci (by decide)).trans (congrArg (fun z => gUp z 66 6 (-1)) gUp_same))).trans rfl)).trans ((gUp_ci (by decide)).trans (congrArg (fun z => gUp z 66 5 k_109) gUp_same))) ?_
              show Wp _ _ _ _ _ _ []
              refine w_goto (pc' := 155) dX10_advance_112 rfl ?_
              refine w_return rfl dX10_advance_155 ?_
              exact ⟨a, q_109, k_109, w_109, rfl, rfl, Or.inr ⟨hb, a0, by omega, by omega, Or.inl ⟨by first | exact c_105 | omega, hr_109⟩⟩⟩
          · skip
            refine w_aload_n (pc' := 71) (i := 0) (by rfl) (by rfl) dX10_advance_70 rfl ?_
            refine w_aload_n (pc' := 72) (i := 0) (by rfl) (by rfl) dX10_advance_71 rfl ?_
            refine v_getI (pc' := 75) (ji := 2) rfl fg_X10_28 kd_66 dX10_advance_72 rfl ?_
            show Wp _ _ _ _ _ _ [gI (σ 66 2), gR 66]
            refine v_putI (pc' := 78) (ji := 3) rfl fp_X10_40 kd_66 sf_X10_3 dX10_advance_75 rfl ?_
            refine Wp.heq (σ' := gUp (gUp (gUp σ 66 3 (σ 66 2)) 66 4 a) 66 6 (-1)) ((gUp_ci (by decide)).trans (congrArg (fun z => gUp z 66 6 (-1)) ((gUp_ci (by decide)).trans (congrArg (fun z => gUp z 66 4 a) gUp_same)))) ?_
            refine w_aload_n (pc' := 79) (i := 0) (by rfl) (by rfl) dX10_advance_78 rfl ?_
            refine w_aload_n (pc' := 80) (i := 0) (by rfl) (by rfl) dX10_advance_79 rfl ?_
            refine v_getI (pc' := 83) (ji := 2) rfl fg_X10_28 kd_66 dX10_advance_80 rfl ?_
            show Wp _ _ _ _ _ _ [gI (σ 66 2), gR 66]
            refine v_putI (pc' := 86) (ji := 4) rfl fp_X10_31 kd_66 sf_X10_4 dX10_advance_83 rfl ?_
            refine Wp.heq (σ' := gUp (gUp (gUp σ 66 3 (σ 66 2)) 66 4 (σ 66 2)) 66 6 (-1)) ((gUp_ci (by decide)).trans (congrArg (fun z => gUp z 66 6 (-1)) gUp_same)) ?_
            refine w_aload_n (pc' := 87) (i := 0) (by rfl) (by rfl) dX10_advance_86 rfl ?_
            refine w_iconst (pc' := 88) (by decide) dX10_advance_87 rfl ?_
            refine v_putI (pc' := 91) (ji := 5) rfl fp_X10_34 kd_66 sf_X10_5 dX10_advance_88 rfl ?_
            refine w_goto (pc' := 155) dX10_advance_91 rfl ?_
            refine w_return rfl dX10_advance_155 ?_
            exact ⟨(σ 66 2), (σ 66 2), 0, (-1), rfl, rfl, Or.inl ⟨fun i x y => hb i x (by omega), rfl, rfl, rfl, rfl⟩⟩
        · skip
          refine w_aload_n (pc' := 34) (i := 0) (by rfl) (by rfl) dX10_advance_33 rfl ?_
          refine w_dup (pc' := 35) dX10_advance_34 rfl ?_
          refine v_getI (pc' := 38) (ji := 3) rfl fg_X10_40 kd_66 dX10_advance_35 rfl ?_
          show Wp _ _ _ _ _ _ [gI a, gR 66]
          refine w_iconst (pc' := 39) (by decide) dX10_advance_38 rfl ?_
          refine v_iadd (pc' := 40) (by omega) dX10_advance_39 rfl ?_
          refine v_putI (pc' := 43) (ji := 3) rfl fp_X10_40 kd_66 sf_X10_3 dX10_advance_40 rfl ?_
          refine Wp.heq (σ' := gUp σ 66 3 (a + 1)) gUp_same ?_
          refine w_goto (pc' := 8) dX10_advance_43 rfl ?_
          exact ih_8 _ (by omega) (a + 1) rfl (by omega) (by omega) (by exact all_s hb (by first | exact c_30 | omega))
  exact hl_8 _ (σ 66 4) rfl (by omega) (by omega) (by intro i a b; omega)
