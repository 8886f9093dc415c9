/-! a day's parts, who controls whom, the heads: the reference (gen/mod_work.py) -/
theorem q_at {σ : gH} (x f : Int) (hx : 0 ≤ x ∧ x < 60) (hf : 0 ≤ f ∧ f < 60) : Mt mX12_at 0 [gR 133, gI x, gI f] σ (rE (gI (σ 168 (60 * x + f))) σ) := by
  refine Mt.walk (ls := [gR 133, gI x, gI f]) pn_X12 rfl (fun _ _ h => by cases h.1) (Nat.le_of_ble_eq_true rfl) rfl ?_
  refine w_aload_n (pc' := 1) (i := 0) (by rfl) (by rfl) dX12_at_0 rfl ?_
  refine w_getS (pc' := 4) (q := 168) fg_X12_118 kd_133 sf_X12_44 gr_133_44 dX12_at_1 rfl ?_
  refine w_bipush (pc' := 6) (by decide) (by decide) dX12_at_4 rfl ?_
  refine w_iload_n (pc' := 7) (i := 1) (by rfl) (by rfl) dX12_at_6 rfl ?_
  refine v_imul (pc' := 8) (by omega) dX12_at_7 rfl ?_
  refine w_iload_n (pc' := 9) (i := 2) (by rfl) (by rfl) dX12_at_8 rfl ?_
  refine v_iadd (pc' := 10) (by omega) dX12_at_9 rfl ?_
  refine w_iald (pc' := 11) kd_168 (by omega) (by omega) dX12_at_10 rfl ?_
  refine v_ireturn rfl dX12_at_11 ?_
  exact ⟨rfl, rfl⟩
set_option maxHeartbeats 4000000 in
theorem q_spread {σ : gH} {A : Int → Int → Int} (hA : ∀ x f, 0 ≤ x → x < 60 → 0 ≤ f → f < 60 → σ 168 (60 * x + f) = A x f) (hp : ∀ c f, 0 ≤ A c f ∧ A c f ≤ 10000) (hn : 0 ≤ σ 133 6 ∧ σ 133 6 ≤ 60) (hout : ∀ g f, σ 133 6 ≤ g ∨ σ 133 6 ≤ f → A g f = 0) (x : Int) (hx : 0 ≤ x ∧ x < σ 133 6) (h0 : ∀ f, 0 ≤ f → f < 60 → σ 170 (60 * x + f) = 0) : Mt mX12_spread 1 [gR 133, gI x] σ (fun v σ' => v = gX 1 ∧ ∃ c, σ' = gUr σ 170 c ∧ (∀ i, (i < 60 * x ∨ 60 * x + 60 ≤ i) → c i = σ 170 i) ∧ ∀ f, 0 ≤ f → f < 60 → c (60 * x + f) = if ctl A x f = true then 1 else 0) := by
  refine Mt.walk (ls := [gR 133, gI x, gX 1, gX 1, gX 1, gX 1]) pn_X12 rfl (fun _ _ h => by cases h.1) (Nat.le_of_ble_eq_true rfl) rfl ?_
  refine w_iconst (pc' := 1) (by decide) dX12_spread_0 rfl ?_
  refine w_istore_n (pc' := 2) (i := 2) (ls' := [gR 133, gI x, gI 1, gX 1, gX 1, gX 1]) (by rfl) (by decide) (by rfl) dX12_spread_1 rfl ?_
  have hl_2 : ∀ (mm : Nat) (more : Int) (c : Int → Int), (2 * (60 - spC x c) + more).toNat = mm → (more = 0 ∨ more = 1) → (SPs A x c) → (∀ i, (i < 60 * x ∨ 60 * x + 60 ≤ i) → c i = σ 170 i) → (more = 0 → ∀ f, 0 ≤ f → f < σ 133 6 → f ≠ x → c (60 * x + f) = 1 ∨ A x f + spS A x f c (σ 133 6) ≤ 5000) → Wp mX12_spread 1 (fun v σ' => v = gX 1 ∧ ∃ c, σ' = gUr σ 170 c ∧ (∀ i, (i < 60 * x ∨ 60 * x + 60 ≤ i) → c i = σ 170 i) ∧ ∀ f, 0 ≤ f → f < 60 → c (60 * x + f) = if ctl A x f = true then 1 else 0) (gUr σ 170 c) 2 [gR 133, gI x, gI more, gX 1, gX 1, gX 1] [] := by
    intro m_2
    induction m_2 using Nat.strongRecOn with
    | _ m_2 ih_2 =>
      intro more c hmeas_2 hm hs hr hc
      have cn := hs.cnt
      refine w_iload_n (pc' := 3) (i := 2) (by rfl) (by rfl) dX12_spread_2 rfl ?_
      refine w_if_eq (pc' := 6) (t := 127) dX12_spread_3 rfl rfl (fun c_3 => ?_) (fun c_3 => ?_)
      · skip
        refine w_return rfl dX12_spread_127 ?_
        refine ⟨rfl, c, rfl, hr, SPs.fin (fun c f => (hp c f).1) hn hout hs (hc (by omega))⟩
      · skip
        refine w_iconst (pc' := 7) (by decide) dX12_spread_6 rfl ?_
        refine w_istore_n (pc' := 8) (i := 2) (ls' := [gR 133, gI x, gI 0, gX 1, gX 1, gX 1]) (by rfl) (by decide) (by rfl) dX12_spread_7 rfl ?_
        refine w_iconst (pc' := 9) (by decide) dX12_spread_8 rfl ?_
        refine w_istore_n (pc' := 10) (i := 3) (ls' := [gR 133, gI x, gI 0, gI 0, gX 1, gX 1]) (by rfl) (by decide) (by rfl) dX12_spread_9 rfl ?_
        have hl_10 : ∀ (mm : Nat) (more2 f : Int) (c2 : Int → Int), (σ 133 6 - f).toNat = mm → (more2 = 0 ∨ more2 = 1) → (0 ≤ f) → (SPs A x c2) → (∀ i, (i < 60 * x ∨ 60 * x + 60 ≤ i) → c2 i = σ 170 i) → (more2 = 0 → c2 = c ∧ ∀ g, 0 ≤ g → g < f → g ≠ x → c (60 * x + g) = 1 ∨ A x g + spS A x g c (σ 133 6) ≤ 5000) → (more2 = 1 → spC x c + 1 ≤ spC x c2) → Wp mX12_spread 1 (fun v σ' => v = gX 1 ∧ ∃ c, σ' = gUr σ 170 c ∧ (∀ i, (i < 60 * x ∨ 60 * x + 60 ≤ i) → c i = σ 170 i) ∧ ∀ f, 0 ≤ f → f < 60 → c (60 * x + f) = if ctl A x f = true then 1 else 0) (gUr σ 170 c2) 10 [gR 133, gI x, gI more2, gI f, gX 1, gX 1] [] := by
          intro m_10
          induction m_10 using Nat.strongRecOn with
          | _ m_10 ih_10 =>
            intro more2 f c2 hmeas_10 hm2 hf0 hs2 hr2 hz hq1
            have cn2 := hs2.cnt
            have h01f : f < 60 → (c2 (60 * x + f) = 0 ∨ c2 (60 * x + f) = 1) := fun h => (hs2 f hf0 h).imp id (fun q => q.1)
            have hq2 : (2 * (60 - spC x c2) + more2).toNat < (2 * (60 - spC x c) + more).toNat := by
              rcases hm2 with e | e
              · have e2 := (hz e).1
                subst e2
                omega
              · have := hq1 e
                omega
            refine w_iload_n (pc' := 11) (i := 3) (by rfl) (by rfl) dX12_spread_10 rfl ?_
            refine w_aload_n (pc' := 12) (i := 0) (by rfl) (by rfl) dX12_spread_11 rfl ?_
            refine v_getI (pc' := 15) (ji := 6) rfl fg_X12_273 kd_133 dX12_spread_12 rfl ?_
            show Wp _ _ _ _ _ _ [gI (σ 133 6), gI f]
            refine w_icmp_ge (pc' := 18) (t := 124) dX12_spread_15 rfl rfl (fun c_15 => ?_) (fun c_15 => ?_)
            · skip
              refine w_goto (pc' := 2) dX12_spread_124 rfl ?_
              refine Wp.lose (ls' := [gR 133, gI x, gI more2, gX 1, gX 1, gX 1]) ⟨.inr rfl, ⟨.inr rfl, ⟨.inr rfl, ⟨.inl rfl, ⟨.inr rfl, ⟨.inr rfl, trivial⟩⟩⟩⟩⟩⟩ ?_
              exact ih_2 _ (by have := hq2; omega) more2 c2 rfl (by exact hm2) (by exact hs2) (by exact hr2) (by intro e f f0 f1 f2; have h9 := (hz e).2 f f0 (by omega) f2; rw [(hz e).1]; exact h9)
            · skip
              refine w_iload_n (pc' := 19) (i := 3) (by rfl) (by rfl) dX12_spread_18 rfl ?_
              refine w_iload_n (pc' := 20) (i := 1) (by rfl) (by rfl) dX12_spread_19 rfl ?_
              refine w_icmp_eq (pc' := 23) (t := 118) dX12_spread_20 rfl rfl (fun c_20 => ?_) (fun c_20 => ?_)
              · skip
                refine v_iinc (pc' := 121) (x := f) (ls' := [gR 133, gI x, gI more2, gI (f + 1), gX 1, gX 1]) (by omega) (by decide) (by rfl) (by rfl) dX12_spread_118 rfl ?_
                refine w_goto (pc' := 10) dX12_spread_121 rfl ?_
                exact ih_10 _ (by omega) more2 (f + 1) c2 rfl (by first | exact hm2 | omega) (by omega) (by first | exact hs2 | exact (hs2.set (fun c f => (hp c f).1) ⟨hf0, by omega⟩ (by omega) hn (by omega) (by omega)).1) (by first | exact hr2 | (intro i hi; rw [updI_ne (by omega)]; exact hr2 i hi)) (by first | (intro e; exfalso; omega) | (intro e; obtain ⟨e1, e2⟩ := hz e; refine ⟨e1, fun g g0 g1 g2 => ?_⟩; by_cases eg : g = f; (rw [eg, ← e1]; first | (exfalso; omega) | exact .inl (by omega) | exact .inr (by omega)); exact e2 g g0 (by omega) g2)) (by first | exact hq1 | (intro _; have h8 := (hs2.set (fun c f => (hp c f).1) ⟨hf0, (by omega : f < 60)⟩ (by omega) hn (by omega) (by omega)).2; rcases hm2 with e | e; (have e1 := (hz e).1; rw [← e1]; omega); (have h7 := hq1 e; omega)))
              · skip
                refine w_aload_n (pc' := 24) (i := 0) (by rfl) (by rfl) dX12_spread_23 rfl ?_
                refine w_getS (pc' := 27) (q := 170) fg_X12_124 kd_133 sf_X12_46 gr_133_46 dX12_spread_24 rfl ?_
                refine w_bipush (pc' := 29) (by decide) (by decide) dX12_spread_27 rfl ?_
                refine w_iload_n (pc' := 30) (i := 1) (by rfl) (by rfl) dX12_spread_29 rfl ?_
                refine v_imul (pc' := 31) (by omega) dX12_spread_30 rfl ?_
                refine w_iload_n (pc' := 32) (i := 3) (by rfl) (by rfl) dX12_spread_31 rfl ?_
                refine v_iadd (pc' := 33) (by omega) dX12_spread_32 rfl ?_
                refine w_zald (pc' := 34) kd_170 (by omega) (by omega) dX12_spread_33 rfl (fun z_33 => ?_)
                show Wp _ _ _ _ _ _ [gI (c2 ((60 * x) + f))]
                refine w_if_eq (pc' := 37) (t := 40) dX12_spread_34 rfl rfl (fun c_34 => ?_) (fun c_34 => ?_)
                · skip
                  refine w_aload_n (pc' := 41) (i := 0) (by rfl) (by rfl) dX12_spread_40 rfl ?_
                  refine w_iload_n (pc' := 42) (i := 1) (by rfl) (by rfl) dX12_spread_41 rfl ?_
                  refine w_iload_n (pc' := 43) (i := 3) (by rfl) (by rfl) dX12_spread_42 rfl ?_
                  refine v_callVE (pc' := 46) (st' := [gI (σ 168 (60 * x + f))]) (d' := 0) (av := [gI x, gI f]) mi_mX12_at lk_X12_332 rfl ci_X12 kd_133 rfl (Nat.le_of_ble_eq_true rfl) (Nat.le_of_ble_eq_true rfl) dX12_spread_43 rfl rfl (q_at (σ := gUr σ 170 c2) x f ⟨by omega, by omega⟩ ⟨by omega, by omega⟩) ?_
                  refine w_istore (pc' := 48) (ls' := [gR 133, gI x, gI more2, gI f, gI (σ 168 (60 * x + f)), gX 1]) (by decide) (by rfl) dX12_spread_46 rfl ?_
                  refine w_iconst (pc' := 49) (by decide) dX12_spread_48 rfl ?_
                  refine w_istore (pc' := 51) (ls' := [gR 133, gI x, gI more2, gI f, gI (σ 168 (60 * x + f)), gI 0]) (by decide) (by rfl) dX12_spread_49 rfl ?_
                  have hl_51 : ∀ (mm : Nat) (g s : Int), (σ 133 6 - g).toNat = mm → (0 ≤ g) → (g ≤ σ 133 6) → (s = A x f + spS A x f c2 g) → (s ≤ 10000 + 10000 * g) → (0 ≤ s) → Wp mX12_spread 1 (fun v σ' => v = gX 1 ∧ ∃ c, σ' = gUr σ 170 c ∧ (∀ i, (i < 60 * x ∨ 60 * x + 60 ≤ i) → c i = σ 170 i) ∧ ∀ f, 0 ≤ f → f < 60 → c (60 * x + f) = if ctl A x f = true then 1 else 0) (gUr σ 170 c2) 51 [gR 133, gI x, gI more2, gI f, gI s, gI g] [] := by
                    intro m_51
                    induction m_51 using Nat.strongRecOn with
                    | _ m_51 ih_51 =>
                      intro g s hmeas_51 hg0 hg1 hv hb hb0
                      have hpg := hp g f
                      have hv2 : σ 133 6 ≤ g → s = A x f + spS A x f c2 (σ 133 6) := fun h => by rw [hv, show g = σ 133 6 by omega]
                      have h01 : g < 60 → (c2 (60 * x + g) = 0 ∨ c2 (60 * x + g) = 1) := fun h => (hs2 g hg0 h).imp id (fun q => q.1)
                      have hag : g < σ 133 6 → σ 168 (60 * g + f) = A g f := fun h => hA g f (by omega) (by omega) (by omega) (by omega)
                      refine w_iload (pc' := 53) (by rfl) dX12_spread_51 rfl ?_
                      refine w_aload_n (pc' := 54) (i := 0) (by rfl) (by rfl) dX12_spread_53 rfl ?_
                      refine v_getI (pc' := 57) (ji := 6) rfl fg_X12_273 kd_133 dX12_spread_54 rfl ?_
                      show Wp _ _ _ _ _ _ [gI (σ 133 6), gI g]
                      refine w_icmp_ge (pc' := 60) (t := 93) dX12_spread_57 rfl rfl (fun c_57 => ?_) (fun c_57 => ?_)
                      · skip
                        refine w_iload (pc' := 95) (by rfl) dX12_spread_93 rfl ?_
                        refine w_sipush (pc' := 98) (by decide) (by decide) dX12_spread_95 rfl ?_
                        refine w_icmp_gt (pc' := 101) (t := 104) dX12_spread_98 rfl rfl (fun c_98 => ?_) (fun c_98 => ?_)
                        · skip
                          refine w_aload_n (pc' := 105) (i := 0) (by rfl) (by rfl) dX12_spread_104 rfl ?_
                          refine w_getS (pc' := 108) (q := 170) fg_X12_124 kd_133 sf_X12_46 gr_133_46 dX12_spread_105 rfl ?_
                          refine w_bipush (pc' := 110) (by decide) (by decide) dX12_spread_108 rfl ?_
                          refine w_iload_n (pc' := 111) (i := 1) (by rfl) (by rfl) dX12_spread_110 rfl ?_
                          refine v_imul (pc' := 112) (by omega) dX12_spread_111 rfl ?_
                          refine w_iload_n (pc' := 113) (i := 3) (by rfl) (by rfl) dX12_spread_112 rfl ?_
                          refine v_iadd (pc' := 114) (by omega) dX12_spread_113 rfl ?_
                          refine w_iconst (pc' := 115) (by decide) dX12_spread_114 rfl ?_
                          refine w_zast (pc' := 116) kd_170 (.inr rfl) (by omega) (by omega) dX12_spread_115 rfl ?_
                          refine Wp.heq (σ' := gUr σ 170 (updI c2 ((60 * x) + f) 1)) gUp_row ?_
                          refine w_iconst (pc' := 117) (by decide) dX12_spread_116 rfl ?_
                          refine w_istore_n (pc' := 118) (i := 2) (ls' := [gR 133, gI x, gI 1, gI f, gI s, gI g]) (by rfl) (by decide) (by rfl) dX12_spread_117 rfl ?_
                          refine v_iinc (pc' := 121) (x := f) (ls' := [gR 133, gI x, gI 1, gI (f + 1), gI s, gI g]) (by omega) (by decide) (by rfl) (by rfl) dX12_spread_118 rfl ?_
                          refine w_goto (pc' := 10) dX12_spread_121 rfl ?_
                          refine Wp.lose (ls' := [gR 133, gI x, gI 1, gI (f + 1), gX 1, gX 1]) ⟨.inr rfl, ⟨.inr rfl, ⟨.inr rfl, ⟨.inr rfl, ⟨.inl rfl, ⟨.inl rfl, trivial⟩⟩⟩⟩⟩⟩ ?_
                          exact ih_10 _ (by omega) 1 (f + 1) (updI c2 ((60 * x) + f) 1) rfl (by first | exact hm2 | omega) (by omega) (by first | exact hs2 | exact (hs2.set (fun c f => (hp c f).1) ⟨hf0, by omega⟩ (by omega) hn (by omega) (by omega)).1) (by first | exact hr2 | (intro i hi; rw [updI_ne (by omega)]; exact hr2 i hi)) (by first | (intro e; exfalso; omega) | (intro e; obtain ⟨e1, e2⟩ := hz e; refine ⟨e1, fun g g0 g1 g2 => ?_⟩; by_cases eg : g = f; (rw [eg, ← e1]; first | (exfalso; omega) | exact .inl (by omega) | exact .inr (by omega)); exact e2 g g0 (by omega) g2)) (by first | exact hq1 | (intro _; have h8 := (hs2.set (fun c f => (hp c f).1) ⟨hf0, (by omega : f < 60)⟩ (by omega) hn (by omega) (by omega)).2; rcases hm2 with e | e; (have e1 := (hz e).1; rw [← e1]; omega); (have h7 := hq1 e; omega)))
                        · skip
                          refine w_goto (pc' := 118) dX12_spread_101 rfl ?_
                          refine v_iinc (pc' := 121) (x := f) (ls' := [gR 133, gI x, gI more2, gI (f + 1), gI s, gI g]) (by omega) (by decide) (by rfl) (by rfl) dX12_spread_118 rfl ?_
                          refine w_goto (pc' := 10) dX12_spread_121 rfl ?_
                          refine Wp.lose (ls' := [gR 133, gI x, gI more2, gI (f + 1), gX 1, gX 1]) ⟨.inr rfl, ⟨.inr rfl, ⟨.inr rfl, ⟨.inr rfl, ⟨.inl rfl, ⟨.inl rfl, trivial⟩⟩⟩⟩⟩⟩ ?_
                          exact ih_10 _ (by omega) more2 (f + 1) c2 rfl (by first | exact hm2 | omega) (by omega) (by first | exact hs2 | exact (hs2.set (fun c f => (hp c f).1) ⟨hf0, by omega⟩ (by omega) hn (by omega) (by omega)).1) (by first | exact hr2 | (intro i hi; rw [updI_ne (by omega)]; exact hr2 i hi)) (by first | (intro e; exfalso; omega) | (intro e; obtain ⟨e1, e2⟩ := hz e; refine ⟨e1, fun g g0 g1 g2 => ?_⟩; by_cases eg : g = f; (rw [eg, ← e1]; first | (exfalso; omega) | exact .inl (by omega) | exact .inr (by omega)); exact e2 g g0 (by omega) g2)) (by first | exact hq1 | (intro _; have h8 := (hs2.set (fun c f => (hp c f).1) ⟨hf0, (by omega : f < 60)⟩ (by omega) hn (by omega) (by omega)).2; rcases hm2 with e | e; (have e1 := (hz e).1; rw [← e1]; omega); (have h7 := hq1 e; omega)))
                      · skip
                        refine w_aload_n (pc' := 61) (i := 0) (by rfl) (by rfl) dX12_spread_60 rfl ?_
                        refine w_getS (pc' := 64) (q := 170) fg_X12_124 kd_133 sf_X12_46 gr_133_46 dX12_spread_61 rfl ?_
                        refine w_bipush (pc' := 66) (by decide) (by decide) dX12_spread_64 rfl ?_
                        refine w_iload_n (pc' := 67) (i := 1) (by rfl) (by rfl) dX12_spread_66 rfl ?_
                        refine v_imul (pc' := 68) (by omega) dX12_spread_67 rfl ?_
                        refine w_iload (pc' := 70) (by rfl) dX12_spread_68 rfl ?_
                        refine v_iadd (pc' := 71) (by omega) dX12_spread_70 rfl ?_
                        refine w_zald (pc' := 72) kd_170 (by omega) (by omega) dX12_spread_71 rfl (fun z_71 => ?_)
                        show Wp _ _ _ _ _ _ [gI (c2 ((60 * x) + g))]
                        refine w_if_eq (pc' := 75) (t := 87) dX12_spread_72 rfl rfl (fun c_72 => ?_) (fun c_72 => ?_)
                        · skip
                          refine v_iinc (pc' := 90) (x := g) (ls' := [gR 133, gI x, gI more2, gI f, gI s, gI (g + 1)]) (by omega) (by decide) (by rfl) (by rfl) dX12_spread_87 rfl ?_
                          refine w_goto (pc' := 51) dX12_spread_90 rfl ?_
                          exact ih_51 _ (by omega) (g + 1) s rfl (by omega) (by omega) (by show _ = A x f + sumI _ (g + 1).toNat; rw [sumI_s hg0]; first | (rw [if_neg (by omega)]; show _ = A x f + (spS A x f c2 g + 0); omega) | (rw [if_pos (by omega)]; have := hag (by omega); show _ = A x f + (spS A x f c2 g + A g f); omega)) (by first | omega | (have := hag (by omega); omega)) (by first | omega | (have := hag (by omega); omega))
                        · skip
                          refine w_iload (pc' := 77) (by rfl) dX12_spread_75 rfl ?_
                          refine w_aload_n (pc' := 78) (i := 0) (by rfl) (by rfl) dX12_spread_77 rfl ?_
                          refine w_iload (pc' := 80) (by rfl) dX12_spread_78 rfl ?_
                          refine w_iload_n (pc' := 81) (i := 3) (by rfl) (by rfl) dX12_spread_80 rfl ?_
                          refine v_callVE (pc' := 84) (st' := [gI (σ 168 (60 * g + f)), gI s]) (d' := 0) (av := [gI g, gI f]) mi_mX12_at lk_X12_332 rfl ci_X12 kd_133 rfl (Nat.le_of_ble_eq_true rfl) (Nat.le_of_ble_eq_true rfl) dX12_spread_81 rfl rfl (q_at (σ := gUr σ 170 c2) g f ⟨by omega, by omega⟩ ⟨by omega, by omega⟩) ?_
                          refine v_iadd (pc' := 85) (by have := hag (by omega); omega) dX12_spread_84 rfl ?_
                          refine w_istore (pc' := 87) (ls' := [gR 133, gI x, gI more2, gI f, gI (s + (σ 168 (60 * g + f))), gI g]) (by decide) (by rfl) dX12_spread_85 rfl ?_
                          refine v_iinc (pc' := 90) (x := g) (ls' := [gR 133, gI x, gI more2, gI f, gI (s + (σ 168 (60 * g + f))), gI (g + 1)]) (by omega) (by decide) (by rfl) (by rfl) dX12_spread_87 rfl ?_
                          refine w_goto (pc' := 51) dX12_spread_90 rfl ?_
                          exact ih_51 _ (by omega) (g + 1) (s + (σ 168 (60 * g + f))) rfl (by omega) (by omega) (by show _ = A x f + sumI _ (g + 1).toNat; rw [sumI_s hg0]; first | (rw [if_neg (by omega)]; show _ = A x f + (spS A x f c2 g + 0); omega) | (rw [if_pos (by omega)]; have := hag (by omega); show _ = A x f + (spS A x f c2 g + A g f); omega)) (by first | omega | (have := hag (by omega); omega)) (by first | omega | (have := hag (by omega); omega))
                  exact hl_51 _ 0 (σ 168 (60 * x + f)) rfl (by omega) (by omega) (by rw [hA x f (by omega) (by omega) (by omega) (by omega)]; show A x f = A x f + 0; omega) (by rw [hA x f (by omega) (by omega) (by omega) (by omega)]; have := hp x f; omega) (by rw [hA x f (by omega) (by omega) (by omega) (by omega)]; exact (hp x f).1)
                · skip
                  refine w_goto (pc' := 118) dX12_spread_37 rfl ?_
                  refine v_iinc (pc' := 121) (x := f) (ls' := [gR 133, gI x, gI more2, gI (f + 1), gX 1, gX 1]) (by omega) (by decide) (by rfl) (by rfl) dX12_spread_118 rfl ?_
                  refine w_goto (pc' := 10) dX12_spread_121 rfl ?_
                  exact ih_10 _ (by omega) more2 (f + 1) c2 rfl (by first | exact hm2 | omega) (by omega) (by first | exact hs2 | exact (hs2.set (fun c f => (hp c f).1) ⟨hf0, by omega⟩ (by omega) hn (by omega) (by omega)).1) (by first | exact hr2 | (intro i hi; rw [updI_ne (by omega)]; exact hr2 i hi)) (by first | (intro e; exfalso; omega) | (intro e; obtain ⟨e1, e2⟩ := hz e; refine ⟨e1, fun g g0 g1 g2 => ?_⟩; by_cases eg : g = f; (rw [eg, ← e1]; first | (exfalso; omega) | exact .inl (by omega) | exact .inr (by omega)); exact e2 g g0 (by omega) g2)) (by first | exact hq1 | (intro _; have h8 := (hs2.set (fun c f => (hp c f).1) ⟨hf0, (by omega : f < 60)⟩ (by omega) hn (by omega) (by omega)).2; rcases hm2 with e | e; (have e1 := (hz e).1; rw [← e1]; omega); (have h7 := hq1 e; omega)))
        exact hl_10 _ 0 0 c rfl (by omega) (by omega) (by exact hs) (by exact hr) (by exact fun _ => ⟨rfl, fun g g0 g1 => by omega⟩) (by omega)
  refine Wp.heq (σ' := gUr σ 170 (σ 170)) gUr_id.symm ?_
  exact hl_2 _ 1 (σ 170) rfl (by omega) (by exact fun f a b => .inl (h0 f a b)) (by exact fun i _ => rfl) (by omega)
theorem q_isControlled {σ : gH} {A : Int → Int → Int} (hA : ∀ x f, 0 ≤ x → x < 60 → 0 ≤ f → f < 60 → σ 168 (60 * x + f) = A x f) (hp : ∀ c f, 0 ≤ A c f ∧ A c f ≤ 10000) (hn : 0 ≤ σ 133 6 ∧ σ 133 6 ≤ 60) (hout : ∀ g f, σ 133 6 ≤ g ∨ σ 133 6 ≤ f → A g f = 0) (hC : ∀ x f, 0 ≤ x → x < 60 → 0 ≤ f → f < 60 → σ 170 (60 * x + f) = if ctl A x f = true then 1 else 0) (x : Int) (hx : 0 ≤ x ∧ x < 60) : Mt mX12_isControlled 0 [gR 133, gI x] σ (rE (gI (gb (rul A x = true))) σ) := by
  refine Mt.walk (ls := [gR 133, gI x, gX 1]) pn_X12 rfl (fun _ _ h => by cases h.1) (Nat.le_of_ble_eq_true rfl) rfl ?_
  refine w_iconst (pc' := 1) (by decide) dX12_isControlled_0 rfl ?_
  refine w_istore_n (pc' := 2) (i := 2) (ls' := [gR 133, gI x, gI 0]) (by rfl) (by decide) (by rfl) dX12_isControlled_1 rfl ?_
  have hl_2 : ∀ (mm : Nat) (z : Int), (σ 133 6 - z).toNat = mm → (0 ≤ z) → (∀ y, 0 ≤ y → y < z → ¬ Ctl A y x) → Wp mX12_isControlled 0 (rE (gI (gb (rul A x = true))) σ) σ 2 [gR 133, gI x, gI z] [] := by
    intro m_2
    induction m_2 using Nat.strongRecOn with
    | _ m_2 ih_2 =>
      intro z hmeas_2 h0 hz
      have hcz : z < σ 133 6 → σ 170 (60 * z + x) = if ctl A z x = true then 1 else 0 := fun h => hC z x h0 (by omega) hx.1 hx.2
      refine w_iload_n (pc' := 3) (i := 2) (by rfl) (by rfl) dX12_isControlled_2 rfl ?_
      refine w_aload_n (pc' := 4) (i := 0) (by rfl) (by rfl) dX12_isControlled_3 rfl ?_
      refine v_getI (pc' := 7) (ji := 6) rfl fg_X12_273 kd_133 dX12_isControlled_4 rfl ?_
      refine w_icmp_ge (pc' := 10) (t := 37) dX12_isControlled_7 rfl rfl (fun c_7 => ?_) (fun c_7 => ?_)
      · skip
        refine w_iconst (pc' := 38) (by decide) dX12_isControlled_37 rfl ?_
        refine w_zreturn rfl (.inl rfl) dX12_isControlled_38 ?_
        refine ⟨gbF (fun k => ?_), rfl⟩
        obtain ⟨y, y0, y1, y2⟩ := rul_iff.mp k
        by_cases l : y < z
        · exact hz y y0 l y2
        · exact Ctl_out hout (.inl (by omega)) y2
      · skip
        refine w_iload_n (pc' := 11) (i := 2) (by rfl) (by rfl) dX12_isControlled_10 rfl ?_
        refine w_iload_n (pc' := 12) (i := 1) (by rfl) (by rfl) dX12_isControlled_11 rfl ?_
        refine w_icmp_eq (pc' := 15) (t := 31) dX12_isControlled_12 rfl rfl (fun c_12 => ?_) (fun c_12 => ?_)
        · skip
          refine v_iinc (pc' := 34) (x := z) (ls' := [gR 133, gI x, gI (z + 1)]) (by omega) (by decide) (by rfl) (by rfl) dX12_isControlled_31 rfl ?_
          refine w_goto (pc' := 2) dX12_isControlled_34 rfl ?_
          exact ih_2 _ (by omega) (z + 1) rfl (by omega) (by intro y a b k; by_cases e : y = z; (subst e; first | exact k.2.2.1 (by omega) | (have := hcz (by omega); rw [if_pos (ctl_iff.mpr k)] at this; omega)); exact hz y a (by omega) k)
        · skip
          refine w_aload_n (pc' := 16) (i := 0) (by rfl) (by rfl) dX12_isControlled_15 rfl ?_
          refine w_getS (pc' := 19) (q := 170) fg_X12_124 kd_133 sf_X12_46 gr_133_46 dX12_isControlled_16 rfl ?_
          refine w_bipush (pc' := 21) (by decide) (by decide) dX12_isControlled_19 rfl ?_
          refine w_iload_n (pc' := 22) (i := 2) (by rfl) (by rfl) dX12_isControlled_21 rfl ?_
          refine v_imul (pc' := 23) (by omega) dX12_isControlled_22 rfl ?_
          refine w_iload_n (pc' := 24) (i := 1) (by rfl) (by rfl) dX12_isControlled_23 rfl ?_
          refine v_iadd (pc' := 25) (by omega) dX12_isControlled_24 rfl ?_
          refine w_zald (pc' := 26) kd_170 (by omega) (by omega) dX12_isControlled_25 rfl (fun z_25 => ?_)
          refine w_if_eq (pc' := 29) (t := 31) dX12_isControlled_26 rfl rfl (fun c_26 => ?_) (fun c_26 => ?_)
          · skip
            refine v_iinc (pc' := 34) (x := z) (ls' := [gR 133, gI x, gI (z + 1)]) (by omega) (by decide) (by rfl) (by rfl) dX12_isControlled_31 rfl ?_
            refine w_goto (pc' := 2) dX12_isControlled_34 rfl ?_
            exact ih_2 _ (by omega) (z + 1) rfl (by omega) (by intro y a b k; by_cases e : y = z; (subst e; first | exact k.2.2.1 (by omega) | (have := hcz (by omega); rw [if_pos (ctl_iff.mpr k)] at this; omega)); exact hz y a (by omega) k)
          · skip
            refine w_iconst (pc' := 30) (by decide) dX12_isControlled_29 rfl ?_
            refine w_zreturn rfl (.inr rfl) dX12_isControlled_30 ?_
            refine ⟨gbT (rul_iff.mpr ⟨z, h0, by omega, ?_⟩), rfl⟩
            by_cases k : ctl A z x = true
            · exact ctl_iff.mp k
            · have := hcz (by omega)
              rw [if_neg k] at this
              omega
  exact hl_2 _ 0 rfl (by omega) (by intro y a b; omega)
theorem q_headOf {σ : gH} {A : Int → Int → Int} (hA : ∀ x f, 0 ≤ x → x < 60 → 0 ≤ f → f < 60 → σ 168 (60 * x + f) = A x f) (hp : ∀ c f, 0 ≤ A c f ∧ A c f ≤ 10000) (hn : 0 ≤ σ 133 6 ∧ σ 133 6 ≤ 60) (hout : ∀ g f, σ 133 6 ≤ g ∨ σ 133 6 ≤ f → A g f = 0) (hC : ∀ x f, 0 ≤ x → x < 60 → 0 ≤ f → f < 60 → σ 170 (60 * x + f) = if ctl A x f = true then 1 else 0) (x : Int) (hx : 0 ≤ x ∧ x < 60) : Mt mX12_headOf 1 [gR 133, gI x] σ (rE (gI (HD A x)) σ) := by
  refine Mt.walk (ls := [gR 133, gI x, gX 1, gX 1]) pn_X12 rfl (fun _ _ h => by cases h.1) (Nat.le_of_ble_eq_true rfl) rfl ?_
  refine w_iload_n (pc' := 1) (i := 1) (by rfl) (by rfl) dX12_headOf_0 rfl ?_
  refine w_istore_n (pc' := 2) (i := 2) (ls' := [gR 133, gI x, gI x, gX 1]) (by rfl) (by decide) (by rfl) dX12_headOf_1 rfl ?_
  refine w_iconst (pc' := 3) (by decide) dX12_headOf_2 rfl ?_
  refine w_istore_n (pc' := 4) (i := 3) (ls' := [gR 133, gI x, gI x, gI 0]) (by rfl) (by decide) (by rfl) dX12_headOf_3 rfl ?_
  have hl_4 : ∀ (mm : Nat) (y l : Int), (σ 133 6 - y).toNat = mm → (0 ≤ y) → (y ≤ σ 133 6) → (hdL (fun z => ctl A z x) (rul A) (60 - y).toNat y l = HD A x) → Wp mX12_headOf 1 (rE (gI (HD A x)) σ) σ 4 [gR 133, gI x, gI l, gI y] [] := by
    intro m_4
    induction m_4 using Nat.strongRecOn with
    | _ m_4 ih_4 =>
      intro y l hmeas_4 h0 h1 hl
      have hcz : y < σ 133 6 → σ 170 (60 * y + x) = if ctl A y x = true then 1 else 0 := fun h => hC y x h0 (by omega) hx.1 hx.2
      have hcT : y < σ 133 6 → σ 170 (60 * y + x) ≠ 0 → ctl A y x = true := fun h k => by
        by_cases e : ctl A y x = true
        · exact e
        · rw [hcz h, if_neg e] at k
          exact absurd rfl k
      have hcF : y < σ 133 6 → σ 170 (60 * y + x) = 0 → ¬ ctl A y x = true := fun h k e => by
        rw [hcz h, if_pos e] at k
        omega
      refine w_iload_n (pc' := 5) (i := 3) (by rfl) (by rfl) dX12_headOf_4 rfl ?_
      refine w_aload_n (pc' := 6) (i := 0) (by rfl) (by rfl) dX12_headOf_5 rfl ?_
      refine v_getI (pc' := 9) (ji := 6) rfl fg_X12_273 kd_133 dX12_headOf_6 rfl ?_
      refine w_icmp_ge (pc' := 12) (t := 52) dX12_headOf_9 rfl rfl (fun c_9 => ?_) (fun c_9 => ?_)
      · skip
        refine w_iload_n (pc' := 53) (i := 2) (by rfl) (by rfl) dX12_headOf_52 rfl ?_
        refine v_ireturn rfl dX12_headOf_53 ?_
        rw [hdL_no (60 - y).toNat (fun z a b => Bool.eq_false_iff.mpr (fun k => Ctl_out hout (.inl (by omega)) (ctl_iff.mp k)))] at hl
        exact ⟨by rw [← hl], rfl⟩
      · skip
        refine w_aload_n (pc' := 13) (i := 0) (by rfl) (by rfl) dX12_headOf_12 rfl ?_
        refine w_getS (pc' := 16) (q := 170) fg_X12_124 kd_133 sf_X12_46 gr_133_46 dX12_headOf_13 rfl ?_
        refine w_bipush (pc' := 18) (by decide) (by decide) dX12_headOf_16 rfl ?_
        refine w_iload_n (pc' := 19) (i := 3) (by rfl) (by rfl) dX12_headOf_18 rfl ?_
        refine v_imul (pc' := 20) (by omega) dX12_headOf_19 rfl ?_
        refine w_iload_n (pc' := 21) (i := 1) (by rfl) (by rfl) dX12_headOf_20 rfl ?_
        refine v_iadd (pc' := 22) (by omega) dX12_headOf_21 rfl ?_
        refine w_zald (pc' := 23) kd_170 (by omega) (by omega) dX12_headOf_22 rfl (fun z_22 => ?_)
        refine w_if_ne (pc' := 26) (t := 29) dX12_headOf_23 rfl rfl (fun c_23 => ?_) (fun c_23 => ?_)
        · skip
          refine w_aload_n (pc' := 30) (i := 0) (by rfl) (by rfl) dX12_headOf_29 rfl ?_
          refine w_iload_n (pc' := 31) (i := 3) (by rfl) (by rfl) dX12_headOf_30 rfl ?_
          refine v_callVE (pc' := 34) (st' := [gI (gb (rul A y = true))]) (d' := 0) (av := [gI y]) mi_mX12_isControlled lk_X12_335 rfl ci_X12 kd_133 rfl (Nat.le_of_ble_eq_true rfl) (Nat.le_of_ble_eq_true rfl) dX12_headOf_31 rfl rfl (q_isControlled (σ := σ) hA hp hn hout hC y ⟨by omega, by omega⟩) ?_
          refine v_if_neB (pc' := 37) (t := 39) dX12_headOf_34 rfl rfl (fun c_34 => ?_) (fun c_34 => ?_)
          · skip
            refine w_iload_n (pc' := 40) (i := 3) (by rfl) (by rfl) dX12_headOf_39 rfl ?_
            refine w_iload_n (pc' := 41) (i := 2) (by rfl) (by rfl) dX12_headOf_40 rfl ?_
            refine w_icmp_ge (pc' := 44) (t := 46) dX12_headOf_41 rfl rfl (fun c_41 => ?_) (fun c_41 => ?_)
            · skip
              refine v_iinc (pc' := 49) (x := y) (ls' := [gR 133, gI x, gI l, gI (y + 1)]) (by omega) (by decide) (by rfl) (by rfl) dX12_headOf_46 rfl ?_
              refine w_goto (pc' := 4) dX12_headOf_49 rfl ?_
              exact ih_4 _ (by omega) (y + 1) l rfl (by omega) (by omega) (by rw [hdL_s (by omega)] at hl; first | (rw [if_neg (hcF (by omega) (by omega))] at hl; exact hl) | (rw [if_pos (hcT (by omega) (by omega)), if_pos c_34] at hl; first | (rw [if_pos (by omega)] at hl; exact hl) | (rw [if_neg (by omega)] at hl; exact hl)))
            · skip
              refine w_iload_n (pc' := 45) (i := 3) (by rfl) (by rfl) dX12_headOf_44 rfl ?_
              refine w_istore_n (pc' := 46) (i := 2) (ls' := [gR 133, gI x, gI y, gI y]) (by rfl) (by decide) (by rfl) dX12_headOf_45 rfl ?_
              refine v_iinc (pc' := 49) (x := y) (ls' := [gR 133, gI x, gI y, gI (y + 1)]) (by omega) (by decide) (by rfl) (by rfl) dX12_headOf_46 rfl ?_
              refine w_goto (pc' := 4) dX12_headOf_49 rfl ?_
              exact ih_4 _ (by omega) (y + 1) y rfl (by omega) (by omega) (by rw [hdL_s (by omega)] at hl; first | (rw [if_neg (hcF (by omega) (by omega))] at hl; exact hl) | (rw [if_pos (hcT (by omega) (by omega)), if_pos c_34] at hl; first | (rw [if_pos (by omega)] at hl; exact hl) | (rw [if_neg (by omega)] at hl; exact hl)))
          · skip
            refine w_iload_n (pc' := 38) (i := 3) (by rfl) (by rfl) dX12_headOf_37 rfl ?_
            refine v_ireturn rfl dX12_headOf_38 ?_
            rw [hdL_s (by omega), if_pos (hcT (by omega) (by omega)), if_neg c_34] at hl
            exact ⟨by rw [← hl], rfl⟩
        · skip
          refine w_goto (pc' := 46) dX12_headOf_26 rfl ?_
          refine v_iinc (pc' := 49) (x := y) (ls' := [gR 133, gI x, gI l, gI (y + 1)]) (by omega) (by decide) (by rfl) (by rfl) dX12_headOf_46 rfl ?_
          refine w_goto (pc' := 4) dX12_headOf_49 rfl ?_
          exact ih_4 _ (by omega) (y + 1) l rfl (by omega) (by omega) (by rw [hdL_s (by omega)] at hl; first | (rw [if_neg (hcF (by omega) (by omega))] at hl; exact hl) | (rw [if_pos (hcT (by omega) (by omega)), if_pos c_34] at hl; first | (rw [if_pos (by omega)] at hl; exact hl) | (rw [if_neg (by omega)] at hl; exact hl)))
  exact hl_4 _ 0 x rfl (by omega) (by omega) (by rfl)
theorem own_span {σ : gH} (hI : Inv σ) {r : Int} (h0 : 0 ≤ r) (h1 : r < σ 15 6) : σ 20 r = -1 ∨ isDy (σ 20 r) := ((hI.f.own.2.2.2 r h0 h1).2.2.2.2.2.2.2.2.2.2.2.1.2).imp id (fun q => q.1)
theorem apS_in {σ : gH} (hI : Inv σ) {d t x f i : Int} (h0 : 0 ≤ i) (h1 : i ≤ σ 15 6) : 0 ≤ sumI (apT σ d t x f) i.toNat ∧ sumI (apT σ d t x f) i.toNat ≤ 10000 * i := by
  constructor
  · exact sumI_nonneg fun j a b => (apT_in hI a (by omega)).1
  · have h2 : sumI (apT σ d t x f) i.toNat ≤ sumI (fun _ => 10000) i.toNat := sumI_le fun j a b => (apT_in hI a (by omega)).2
    rw [sumI_const] at h2
    omega
set_option maxHeartbeats 4000000 in
theorem q_work {σ0 σ : gH} (hI : Inv σ0) (hq : QM σ0 σ) (d t : Int) : Mt mX12_work 2 [gR 133, gI d, gI t] σ (fun v σ' => v = gX 1 ∧ QM σ0 σ' ∧ KW σ σ' ∧ WK (AR σ0 d t) (σ0 3 2) (σ' 168) (σ' 169) (σ' 170)) := by
  refine Mt.walk (ls := [gR 133, gI d, gI t, gX 1]) pn_X12 rfl (fun _ _ h => by cases h.1) (Nat.le_of_ble_eq_true rfl) rfl ?_
  have hp := hI.f.hp
  have hp0 := hI.f.party.2.1
  have hn := hI.f.own.2.2.1
  have hn0 := hI.f.own.2.1
  have e6 : σ 133 6 = σ0 3 2 := (hq.rd (.inr rfl)).trans hI.f6
  have hn6 : 0 ≤ σ 133 6 ∧ σ 133 6 ≤ 60 := by omega
  have hout6 : ∀ g f, σ 133 6 ≤ g ∨ σ 133 6 ≤ f → AR σ0 d t g f = 0 := fun g f h => AR_out hI (by omega)
  have hj_28 : Wp mX12_work 2 (fun v σ' => v = gX 1 ∧ QM σ0 σ' ∧ KW σ σ' ∧ WK (AR σ0 d t) (σ0 3 2) (σ' 168) (σ' 169) (σ' 170)) σ 28 [gR 133, gI d, gI t, gX 1] [] := by
    refine w_aload_n (pc' := 29) (i := 0) (by rfl) (by rfl) dX12_work_28 rfl ?_
    refine w_aload_n (pc' := 30) (i := 0) (by rfl) (by rfl) dX12_work_29 rfl ?_
    refine v_getI (pc' := 33) (ji := 7) rfl fg_X12_20 kd_133 dX12_work_30 rfl ?_
    rw [(hq).rd (k := 133) (i := 7) (.inr rfl)]
    refine v_putI (pc' := 36) (ji := 49) rfl fp_X12_322 kd_133 sf_X12_49 dX12_work_33 rfl ?_
    refine w_aload_n (pc' := 37) (i := 0) (by rfl) (by rfl) dX12_work_36 rfl ?_
    refine w_iload_n (pc' := 38) (i := 1) (by rfl) (by rfl) dX12_work_37 rfl ?_
    refine v_putI (pc' := 41) (ji := 47) rfl fp_X12_127 kd_133 sf_X12_47 dX12_work_38 rfl ?_
    refine w_aload_n (pc' := 42) (i := 0) (by rfl) (by rfl) dX12_work_41 rfl ?_
    refine w_iload_n (pc' := 43) (i := 2) (by rfl) (by rfl) dX12_work_42 rfl ?_
    refine v_putI (pc' := 46) (ji := 48) rfl fp_X12_130 kd_133 sf_X12_48 dX12_work_43 rfl ?_
    refine w_iconst (pc' := 47) (by decide) dX12_work_46 rfl ?_
    refine w_istore_n (pc' := 48) (i := 3) (ls' := [gR 133, gI d, gI t, gI 0]) (by rfl) (by decide) (by rfl) dX12_work_47 rfl ?_
    have hl_48 : ∀ (mm : Nat) (k : Int) (P C : Int → Int), (3600 - k).toNat = mm → (0 ≤ k) → (k ≤ 3600) → (∀ i, 0 ≤ i → i < k → P i = 0 ∧ C i = 0) → Wp mX12_work 2 (fun v σ' => v = gX 1 ∧ QM σ0 σ' ∧ KW σ σ' ∧ WK (AR σ0 d t) (σ0 3 2) (σ' 168) (σ' 169) (σ' 170)) (gUr (gUr (gUp (gUp (gUp σ 133 49 (σ0 133 7)) 133 47 d) 133 48 t) 168 P) 170 C) 48 [gR 133, gI d, gI t, gI k] [] := by
      intro m_48
      induction m_48 using Nat.strongRecOn with
      | _ m_48 ih_48 =>
        intro k P C hmeas_48 h0 h1 hz0
        refine w_iload_n (pc' := 49) (i := 3) (by rfl) (by rfl) dX12_work_48 rfl ?_
        refine w_sipush (pc' := 52) (by decide) (by decide) dX12_work_49 rfl ?_
        refine w_icmp_ge (pc' := 55) (t := 75) dX12_work_52 rfl rfl (fun c_52 => ?_) (fun c_52 => ?_)
        · skip
          refine w_iconst (pc' := 76) (by decide) dX12_work_75 rfl ?_
          refine w_istore_n (pc' := 77) (i := 3) (ls' := [gR 133, gI d, gI t, gI 0]) (by rfl) (by decide) (by rfl) dX12_work_76 rfl ?_
          have hl_77 : ∀ (mm : Nat) (j : Int) (R : Int → Int), (σ0 15 6 - j).toNat = mm → (0 ≤ j) → (j ≤ σ0 15 6) → (∀ x f, 0 ≤ x → x < 60 → 0 ≤ f → f < 60 → R (60 * x + f) = sumI (apT σ0 d t x f) j.toNat) → Wp mX12_work 2 (fun v σ' => v = gX 1 ∧ QM σ0 σ' ∧ KW σ σ' ∧ WK (AR σ0 d t) (σ0 3 2) (σ' 168) (σ' 169) (σ' 170)) (gUr (gUr (gUp (gUp (gUp σ 133 49 (σ0 133 7)) 133 47 d) 133 48 t) 168 R) 170 C) 77 [gR 133, gI d, gI t, gI j] [] := by
            intro m_77
            induction m_77 using Nat.strongRecOn with
            | _ m_77 ih_77 =>
              intro j R hmeas_77 hj0 hj1 hR
              have hr := fun h : j < σ0 15 6 => own_row hI hj0 h
              have hs := fun h : j < σ0 15 6 => own_span hI hj0 h
              have hb : j < σ0 15 6 → 0 ≤ R (60 * (σ0 16 j) + (σ0 17 j)) ∧ R (60 * (σ0 16 j) + (σ0 17 j)) ≤ 2000000 := fun h => by
                have r := hr h
                rw [hR _ _ r.1.1 (by omega) r.2.1.1 (by omega)]
                have := apS_in hI (d := d) (t := t) (x := σ0 16 j) (f := σ0 17 j) hj0 (by omega)
                omega
              refine w_iload_n (pc' := 78) (i := 3) (by rfl) (by rfl) dX12_work_77 rfl ?_
              refine w_aload_n (pc' := 79) (i := 0) (by rfl) (by rfl) dX12_work_78 rfl ?_
              refine v_getI (pc' := 82) (ji := 14) rfl fg_X12_283 kd_133 dX12_work_79 rfl ?_
              show Wp _ _ _ _ _ _ [gI (σ 133 14), gI j]
              rw [(hq).rd (k := 133) (i := 14) (.inr rfl)]
              rw [hI.f14]
              refine w_icmp_ge (pc' := 85) (t := 150) dX12_work_82 rfl rfl (fun c_82 => ?_) (fun c_82 => ?_)
              · skip
                refine w_iconst (pc' := 151) (by decide) dX12_work_150 rfl ?_
                refine w_istore_n (pc' := 152) (i := 3) (ls' := [gR 133, gI d, gI t, gI 0]) (by rfl) (by decide) (by rfl) dX12_work_151 rfl ?_
                have hP2 : ∀ x f, 0 ≤ x → x < 60 → 0 ≤ f → f < 60 → R (60 * x + f) = AR σ0 d t x f := fun x f a b c e => by
                  rw [hR x f a b c e, show j = σ0 15 6 by omega]
                  rfl
                have hl_152 : ∀ (mm : Nat) (y : Int) (D : Int → Int), (σ0 3 2 - y).toNat = mm → (0 ≤ y) → (y ≤ σ0 3 2) → (∀ x f, y ≤ x → x < 60 → 0 ≤ f → f < 60 → D (60 * x + f) = 0) → (∀ x f, 0 ≤ x → x < y → 0 ≤ f → f < 60 → D (60 * x + f) = if ctl (AR σ0 d t) x f = true then 1 else 0) → Wp mX12_work 2 (fun v σ' => v = gX 1 ∧ QM σ0 σ' ∧ KW σ σ' ∧ WK (AR σ0 d t) (σ0 3 2) (σ' 168) (σ' 169) (σ' 170)) (gUr (gUr (gUp (gUp (gUp σ 133 49 (σ0 133 7)) 133 47 d) 133 48 t) 168 R) 170 D) 152 [gR 133, gI d, gI t, gI y] [] := by
                  intro m_152
                  induction m_152 using Nat.strongRecOn with
                  | _ m_152 ih_152 =>
                    intro y D hmeas_152 hy0 hy1 hz hd
                    refine w_iload_n (pc' := 153) (i := 3) (by rfl) (by rfl) dX12_work_152 rfl ?_
                    refine w_aload_n (pc' := 154) (i := 0) (by rfl) (by rfl) dX12_work_153 rfl ?_
                    refine v_getI (pc' := 157) (ji := 6) rfl fg_X12_273 kd_133 dX12_work_154 rfl ?_
                    show Wp _ _ _ _ _ _ [gI (σ 133 6), gI y]
                    rw [(hq).rd (k := 133) (i := 6) (.inr rfl)]
                    rw [hI.f6]
                    refine w_icmp_ge (pc' := 160) (t := 171) dX12_work_157 rfl rfl (fun c_157 => ?_) (fun c_157 => ?_)
                    · skip
                      refine w_iconst (pc' := 172) (by decide) dX12_work_171 rfl ?_
                      refine w_istore_n (pc' := 173) (i := 3) (ls' := [gR 133, gI d, gI t, gI 0]) (by rfl) (by decide) (by rfl) dX12_work_172 rfl ?_
                      have hC2 : ∀ x f, 0 ≤ x → x < 60 → 0 ≤ f → f < 60 → D (60 * x + f) = if ctl (AR σ0 d t) x f = true then 1 else 0 := fun x f a b c e => by
                        by_cases l : x < y
                        · exact hd x f a l c e
                        · rw [hz x f (by omega) b c e, if_neg (fun k => Ctl_out hout6 (.inl (by omega)) (ctl_iff.mp k))]
                      have hl_173 : ∀ (mm : Nat) (z : Int) (H : Int → Int), (σ0 3 2 - z).toNat = mm → (0 ≤ z) → (z ≤ σ0 3 2) → (∀ x, 0 ≤ x → x < z → H x = HD (AR σ0 d t) x) → Wp mX12_work 2 (fun v σ' => v = gX 1 ∧ QM σ0 σ' ∧ KW σ σ' ∧ WK (AR σ0 d t) (σ0 3 2) (σ' 168) (σ' 169) (σ' 170)) (gUr (gUr (gUr (gUp (gUp (gUp σ 133 49 (σ0 133 7)) 133 47 d) 133 48 t) 168 R) 170 D) 169 H) 173 [gR 133, gI d, gI t, gI z] [] := by
                        intro m_173
                        induction m_173 using Nat.strongRecOn with
                        | _ m_173 ih_173 =>
                          intro z H hmeas_173 hz1 hz2 hH
                          refine w_iload_n (pc' := 174) (i := 3) (by rfl) (by rfl) dX12_work_173 rfl ?_
                          refine w_aload_n (pc' := 175) (i := 0) (by rfl) (by rfl) dX12_work_174 rfl ?_
                          refine v_getI (pc' := 178) (ji := 6) rfl fg_X12_273 kd_133 dX12_work_175 rfl ?_
                          show Wp _ _ _ _ _ _ [gI (σ 133 6), gI z]
                          rw [(hq).rd (k := 133) (i := 6) (.inr rfl)]
                          rw [hI.f6]
                          refine w_icmp_ge (pc' := 181) (t := 198) dX12_work_178 rfl rfl (fun c_178 => ?_) (fun c_178 => ?_)
                          · skip
                            refine w_return rfl dX12_work_198 ?_
                            have hW : WK (AR σ0 d t) (σ0 3 2) R H D := ⟨fun x f a b c e => ⟨hP2 x f a b c e, hC2 x f a b c e⟩, fun x a b => hH x a (by omega)⟩
                            exact ⟨rfl, work_end hI hq hW, ((((((KW.refl.up (by decide)).up (by decide)).up (by decide)).ur (fun _ => rfl)).ur (fun _ => rfl)).ur (fun _ => rfl)), hW⟩
                          · skip
                            refine w_aload_n (pc' := 182) (i := 0) (by rfl) (by rfl) dX12_work_181 rfl ?_
                            refine w_getS (pc' := 185) (q := 169) fg_X12_121 kd_133 sf_X12_45 gr_133_45 dX12_work_182 rfl ?_
                            refine w_iload_n (pc' := 186) (i := 3) (by rfl) (by rfl) dX12_work_185 rfl ?_
                            refine w_aload_n (pc' := 187) (i := 0) (by rfl) (by rfl) dX12_work_186 rfl ?_
                            refine w_iload_n (pc' := 188) (i := 3) (by rfl) (by rfl) dX12_work_187 rfl ?_
                            refine v_callVE (pc' := 191) (st' := [gI (HD (AR σ0 d t) z), gI z, gR 169]) (d' := 1) (av := [gI z]) mi_mX12_headOf lk_X12_328 rfl ci_X12 kd_133 rfl (Nat.le_of_ble_eq_true rfl) (Nat.le_of_ble_eq_true rfl) dX12_work_188 rfl rfl (q_headOf (σ := gUr (gUr (gUr (gUp (gUp (gUp σ 133 49 (σ0 133 7)) 133 47 d) 133 48 t) 168 R) 170 D) 169 H) (A := AR σ0 d t) (fun x f a b c e => hP2 x f a b c e) (fun c f => AR_in hI d t c f) hn6 hout6 (fun x f a b c e => hC2 x f a b c e) z ⟨by omega, by omega⟩) ?_
                            refine w_iast (pc' := 192) kd_169 (by omega) (by omega) dX12_work_191 rfl ?_
                            refine Wp.heq (σ' := gUr (gUr (gUr (gUp (gUp (gUp σ 133 49 (σ0 133 7)) 133 47 d) 133 48 t) 168 R) 170 D) 169 (updI H z (HD (AR σ0 d t) z))) gUp_row ?_
                            refine v_iinc (pc' := 195) (x := z) (ls' := [gR 133, gI d, gI t, gI (z + 1)]) (by omega) (by decide) (by rfl) (by rfl) dX12_work_192 rfl ?_
                            refine w_goto (pc' := 173) dX12_work_195 rfl ?_
                            exact ih_173 _ (by omega) (z + 1) (updI H z (HD (AR σ0 d t) z)) rfl (by omega) (by omega) (by intro x a b; by_cases k : x = z; (rw [k, updI_eq]); rw [updI_ne k]; exact hH x a (by omega))
                      refine Wp.heq (σ' := gUr (gUr (gUr (gUp (gUp (gUp σ 133 49 (σ0 133 7)) 133 47 d) 133 48 t) 168 R) 170 D) 169 ((gUr (gUr (gUp (gUp (gUp σ 133 49 (σ0 133 7)) 133 47 d) 133 48 t) 168 R) 170 D) 169)) gUr_id.symm ?_
                      exact hl_173 _ 0 ((gUr (gUr (gUp (gUp (gUp σ 133 49 (σ0 133 7)) 133 47 d) 133 48 t) 168 R) 170 D) 169) rfl (by omega) (by omega) (by intro x a b; omega)
                    · skip
                      refine w_aload_n (pc' := 161) (i := 0) (by rfl) (by rfl) dX12_work_160 rfl ?_
                      refine w_iload_n (pc' := 162) (i := 3) (by rfl) (by rfl) dX12_work_161 rfl ?_
                      refine w_callV (pc' := 165) (d' := 1) (av := [gI y]) mi_mX12_spread lk_X12_325 rfl ci_X12 kd_133 rfl (Nat.le_of_ble_eq_true rfl) (Nat.le_of_ble_eq_true rfl) dX12_work_162 rfl (q_spread (σ := gUr (gUr (gUp (gUp (gUp σ 133 49 (σ0 133 7)) 133 47 d) 133 48 t) 168 R) 170 D) (A := AR σ0 d t) (fun x f a b c e => hP2 x f a b c e) (fun c f => AR_in hI d t c f) hn6 hout6 y (by constructor; omega; show y < σ 133 6; omega) (fun f a b => hz y f (Int.le_refl _) (by omega) a b)) (fun v_162 σ_162 q_162 => ?_)
                      obtain ⟨rfl, c162, rfl, hr162, hc162⟩ := q_162
                      refine Wp.heq (σ' := gUr (gUr (gUp (gUp (gUp σ 133 49 (σ0 133 7)) 133 47 d) 133 48 t) 168 R) 170 c162) gUr_same ?_
                      show Wp _ _ _ _ _ _ []
                      refine v_iinc (pc' := 168) (x := y) (ls' := [gR 133, gI d, gI t, gI (y + 1)]) (by omega) (by decide) (by rfl) (by rfl) dX12_work_165 rfl ?_
                      refine w_goto (pc' := 152) dX12_work_168 rfl ?_
                      exact ih_152 _ (by omega) (y + 1) c162 rfl (by omega) (by omega) (by intro x f a b c e; exact (hr162 _ (by omega)).trans (hz x f (by omega) b c e)) (by intro x f a b c e; by_cases k : x = y; (rw [k]; exact hc162 f c e); exact (hr162 _ (by omega)).trans (hd x f a (by omega) c e))
                exact hl_152 _ 0 C rfl (by omega) (by omega) (by intro x f a b c e; exact (hz0 (60 * x + f) (by omega) (by omega)).2) (by intro x f a b; omega)
              · skip
                refine w_aload_n (pc' := 86) (i := 0) (by rfl) (by rfl) dX12_work_85 rfl ?_
                refine w_getS (pc' := 89) (q := 142) fg_X12_39 kd_133 sf_X12_13 gr_133_13 dX12_work_86 rfl ?_
                refine w_iload_n (pc' := 90) (i := 3) (by rfl) (by rfl) dX12_work_89 rfl ?_
                refine w_iald (pc' := 91) kd_142 (by omega) (by omega) dX12_work_90 rfl ?_
                show Wp _ _ _ _ _ _ [gI (σ 142 j)]
                rw [(hq).rd (k := 142) (i := j) (.inr rfl)]
                rw [hI.e142 (i := j) (by omega) (by omega)]
                refine w_iload_n (pc' := 92) (i := 2) (by rfl) (by rfl) dX12_work_91 rfl ?_
                refine w_icmp_gt (pc' := 95) (t := 144) dX12_work_92 rfl rfl (fun c_92 => ?_) (fun c_92 => ?_)
                · skip
                  refine v_iinc (pc' := 147) (x := j) (ls' := [gR 133, gI d, gI t, gI (j + 1)]) (by omega) (by decide) (by rfl) (by rfl) dX12_work_144 rfl ?_
                  refine w_goto (pc' := 77) dX12_work_147 rfl ?_
                  exact ih_77 _ (by omega) (j + 1) R rfl (by omega) (by omega) (by intro x f a b c e; have r := hr (by omega); rw [sumI_s hj0]; unfold apT liv; first | (rw [if_neg (by omega), Int.add_zero]; exact hR x f a b c e) | (by_cases k : σ0 16 j = x ∧ σ0 17 j = f; (rw [if_pos (by omega), show 60 * x + f = 60 * (σ0 16 j) + (σ0 17 j) by omega, updI_eq, hR _ _ r.1.1 (by omega) r.2.1.1 (by omega), k.1, k.2]; rfl); (rw [if_neg (by omega), Int.add_zero, updI_ne (by omega)]; exact hR x f a b c e)))
                · skip
                  refine w_aload_n (pc' := 96) (i := 0) (by rfl) (by rfl) dX12_work_95 rfl ?_
                  refine w_getS (pc' := 99) (q := 140) fg_X12_33 kd_133 sf_X12_11 gr_133_11 dX12_work_96 rfl ?_
                  refine w_iload_n (pc' := 100) (i := 3) (by rfl) (by rfl) dX12_work_99 rfl ?_
                  refine w_iald (pc' := 101) kd_140 (by omega) (by omega) dX12_work_100 rfl ?_
                  show Wp _ _ _ _ _ _ [gI (σ 140 j)]
                  rw [(hq).rd (k := 140) (i := j) (.inr rfl)]
                  rw [hI.e140 (i := j) (by omega) (by omega)]
                  refine w_aload_n (pc' := 102) (i := 0) (by rfl) (by rfl) dX12_work_101 rfl ?_
                  refine w_getS (pc' := 105) (q := 141) fg_X12_36 kd_133 sf_X12_12 gr_133_12 dX12_work_102 rfl ?_
                  refine w_iload_n (pc' := 106) (i := 3) (by rfl) (by rfl) dX12_work_105 rfl ?_
                  refine w_iald (pc' := 107) kd_141 (by omega) (by omega) dX12_work_106 rfl ?_
                  show Wp _ _ _ _ _ _ [gI (σ 141 j), gI (σ0 19 j)]
                  rw [(hq).rd (k := 141) (i := j) (.inr rfl)]
                  rw [hI.e141 (i := j) (by omega) (by omega)]
                  refine w_iload_n (pc' := 108) (i := 1) (by rfl) (by rfl) dX12_work_107 rfl ?_
                  refine v_callSE (pc' := 111) (st' := [gI (gb (σ0 19 j ≤ d ∧ (σ0 20 j = -1 ∨ d < σ0 20 j)))]) (d' := 0) (av := [gI (σ0 19 j), gI (ev (σ0 20 j)), gI d]) ms_mX12_isOn st_mX12_isOn lk_X12_286 rfl rfl (Nat.le_of_ble_eq_true rfl) (Nat.le_of_ble_eq_true rfl) dX12_work_108 rfl rfl (mo_isOnE (gUr (gUr (gUp (gUp (gUp σ 133 49 (σ0 133 7)) 133 47 d) 133 48 t) 168 R) 170 C) (σ0 19 j) (σ0 20 j) d (by exact hs (by omega))) ?_
                  refine v_if_eqB (pc' := 114) (t := 144) dX12_work_111 rfl rfl (fun c_111 => ?_) (fun c_111 => ?_)
                  · skip
                    refine v_iinc (pc' := 147) (x := j) (ls' := [gR 133, gI d, gI t, gI (j + 1)]) (by omega) (by decide) (by rfl) (by rfl) dX12_work_144 rfl ?_
                    refine w_goto (pc' := 77) dX12_work_147 rfl ?_
                    exact ih_77 _ (by omega) (j + 1) R rfl (by omega) (by omega) (by intro x f a b c e; have r := hr (by omega); rw [sumI_s hj0]; unfold apT liv; first | (rw [if_neg (by omega), Int.add_zero]; exact hR x f a b c e) | (by_cases k : σ0 16 j = x ∧ σ0 17 j = f; (rw [if_pos (by omega), show 60 * x + f = 60 * (σ0 16 j) + (σ0 17 j) by omega, updI_eq, hR _ _ r.1.1 (by omega) r.2.1.1 (by omega), k.1, k.2]; rfl); (rw [if_neg (by omega), Int.add_zero, updI_ne (by omega)]; exact hR x f a b c e)))
                  · skip
                    refine w_aload_n (pc' := 115) (i := 0) (by rfl) (by rfl) dX12_work_114 rfl ?_
                    refine w_getS (pc' := 118) (q := 168) fg_X12_118 kd_133 sf_X12_44 gr_133_44 dX12_work_115 rfl ?_
                    refine w_bipush (pc' := 120) (by decide) (by decide) dX12_work_118 rfl ?_
                    refine w_aload_n (pc' := 121) (i := 0) (by rfl) (by rfl) dX12_work_120 rfl ?_
                    refine w_getS (pc' := 124) (q := 137) fg_X12_24 kd_133 sf_X12_8 gr_133_8 dX12_work_121 rfl ?_
                    refine w_iload_n (pc' := 125) (i := 3) (by rfl) (by rfl) dX12_work_124 rfl ?_
                    refine w_iald (pc' := 126) kd_137 (by omega) (by omega) dX12_work_125 rfl ?_
                    show Wp _ _ _ _ _ _ [gI (σ 137 j), gI 60, gR 168]
                    rw [(hq).rd (k := 137) (i := j) (.inr rfl)]
                    rw [hI.e137 (i := j) (by omega) (by omega)]
                    refine v_imul (pc' := 127) (by have := hr (by omega); omega) dX12_work_126 rfl ?_
                    refine w_aload_n (pc' := 128) (i := 0) (by rfl) (by rfl) dX12_work_127 rfl ?_
                    refine w_getS (pc' := 131) (q := 138) fg_X12_27 kd_133 sf_X12_9 gr_133_9 dX12_work_128 rfl ?_
                    refine w_iload_n (pc' := 132) (i := 3) (by rfl) (by rfl) dX12_work_131 rfl ?_
                    refine w_iald (pc' := 133) kd_138 (by omega) (by omega) dX12_work_132 rfl ?_
                    show Wp _ _ _ _ _ _ [gI (σ 138 j), gI (60 * (σ0 16 j)), gR 168]
                    rw [(hq).rd (k := 138) (i := j) (.inr rfl)]
                    rw [hI.e138 (i := j) (by omega) (by omega)]
                    refine v_iadd (pc' := 134) (by have := hr (by omega); omega) dX12_work_133 rfl ?_
                    refine w_dup2 (pc' := 135) dX12_work_134 rfl ?_
                    refine w_iald (pc' := 136) kd_168 (by have := hr (by omega); omega) (by have := hr (by omega); omega) dX12_work_135 rfl ?_
                    show Wp _ _ _ _ _ _ [gI (R ((60 * (σ0 16 j)) + (σ0 17 j))), gI ((60 * (σ0 16 j)) + (σ0 17 j)), gR 168]
                    refine w_aload_n (pc' := 137) (i := 0) (by rfl) (by rfl) dX12_work_136 rfl ?_
                    refine w_getS (pc' := 140) (q := 139) fg_X12_30 kd_133 sf_X12_10 gr_133_10 dX12_work_137 rfl ?_
                    refine w_iload_n (pc' := 141) (i := 3) (by rfl) (by rfl) dX12_work_140 rfl ?_
                    refine w_iald (pc' := 142) kd_139 (by omega) (by omega) dX12_work_141 rfl ?_
                    show Wp _ _ _ _ _ _ [gI (σ 139 j), gI (R ((60 * (σ0 16 j)) + (σ0 17 j))), gI ((60 * (σ0 16 j)) + (σ0 17 j)), gR 168]
                    rw [(hq).rd (k := 139) (i := j) (.inr rfl)]
                    rw [hI.e139 (i := j) (by omega) (by omega)]
                    refine v_iadd (pc' := 143) (by have := hr (by omega); have := hb (by omega); omega) dX12_work_142 rfl ?_
                    refine w_iast (pc' := 144) kd_168 (by have := hr (by omega); omega) (by have := hr (by omega); omega) dX12_work_143 rfl ?_
                    refine Wp.heq (σ' := gUr (gUr (gUp (gUp (gUp σ 133 49 (σ0 133 7)) 133 47 d) 133 48 t) 168 (updI R ((60 * (σ0 16 j)) + (σ0 17 j)) ((R ((60 * (σ0 16 j)) + (σ0 17 j))) + (σ0 18 j)))) 170 C) ((gUp_cr (by decide)).trans (congrArg (fun z => gUr z 170 C) gUp_row)) ?_
                    refine v_iinc (pc' := 147) (x := j) (ls' := [gR 133, gI d, gI t, gI (j + 1)]) (by omega) (by decide) (by rfl) (by rfl) dX12_work_144 rfl ?_
                    refine w_goto (pc' := 77) dX12_work_147 rfl ?_
                    exact ih_77 _ (by omega) (j + 1) (updI R ((60 * (σ0 16 j)) + (σ0 17 j)) ((R ((60 * (σ0 16 j)) + (σ0 17 j))) + (σ0 18 j))) rfl (by omega) (by omega) (by intro x f a b c e; have r := hr (by omega); rw [sumI_s hj0]; unfold apT liv; first | (rw [if_neg (by omega), Int.add_zero]; exact hR x f a b c e) | (by_cases k : σ0 16 j = x ∧ σ0 17 j = f; (rw [if_pos (by omega), show 60 * x + f = 60 * (σ0 16 j) + (σ0 17 j) by omega, updI_eq, hR _ _ r.1.1 (by omega) r.2.1.1 (by omega), k.1, k.2]; rfl); (rw [if_neg (by omega), Int.add_zero, updI_ne (by omega)]; exact hR x f a b c e)))
          exact hl_77 _ 0 P rfl (by omega) (by omega) (by intro x f a b c e; exact (hz0 (60 * x + f) (by omega) (by omega)).1)
        · skip
          refine w_aload_n (pc' := 56) (i := 0) (by rfl) (by rfl) dX12_work_55 rfl ?_
          refine w_getS (pc' := 59) (q := 168) fg_X12_118 kd_133 sf_X12_44 gr_133_44 dX12_work_56 rfl ?_
          refine w_iload_n (pc' := 60) (i := 3) (by rfl) (by rfl) dX12_work_59 rfl ?_
          refine w_iconst (pc' := 61) (by decide) dX12_work_60 rfl ?_
          refine w_iast (pc' := 62) kd_168 (by omega) (by omega) dX12_work_61 rfl ?_
          refine Wp.heq (σ' := gUr (gUr (gUp (gUp (gUp σ 133 49 (σ0 133 7)) 133 47 d) 133 48 t) 168 (updI P k 0)) 170 C) ((gUp_cr (by decide)).trans (congrArg (fun z => gUr z 170 C) gUp_row)) ?_
          refine w_aload_n (pc' := 63) (i := 0) (by rfl) (by rfl) dX12_work_62 rfl ?_
          refine w_getS (pc' := 66) (q := 170) fg_X12_124 kd_133 sf_X12_46 gr_133_46 dX12_work_63 rfl ?_
          refine w_iload_n (pc' := 67) (i := 3) (by rfl) (by rfl) dX12_work_66 rfl ?_
          refine w_iconst (pc' := 68) (by decide) dX12_work_67 rfl ?_
          refine w_zast (pc' := 69) kd_170 (.inl rfl) (by omega) (by omega) dX12_work_68 rfl ?_
          refine Wp.heq (σ' := gUr (gUr (gUp (gUp (gUp σ 133 49 (σ0 133 7)) 133 47 d) 133 48 t) 168 (updI P k 0)) 170 (updI C k 0)) gUp_row ?_
          refine v_iinc (pc' := 72) (x := k) (ls' := [gR 133, gI d, gI t, gI (k + 1)]) (by omega) (by decide) (by rfl) (by rfl) dX12_work_69 rfl ?_
          refine w_goto (pc' := 48) dX12_work_72 rfl ?_
          exact ih_48 _ (by omega) (k + 1) (updI P k 0) (updI C k 0) rfl (by omega) (by omega) (by intro i a b; by_cases e : i = k; rw [e, updI_eq, updI_eq]; exact ⟨rfl, rfl⟩; rw [updI_ne e, updI_ne e]; exact hz0 i a (by omega))
    refine Wp.heq (σ' := gUr (gUr (gUp (gUp (gUp σ 133 49 (σ0 133 7)) 133 47 d) 133 48 t) 168 (σ 168)) 170 (σ 170)) (((rows1 (σ := gUp (gUp (gUp σ 133 49 (σ0 133 7)) 133 47 d) 133 48 t) (a := 168) (b := 170) (f := σ 168) (by decide)).trans (gUr_id (σ := gUp (gUp (gUp σ 133 49 (σ0 133 7)) 133 47 d) 133 48 t) (k := 168))).symm) ?_
    exact hl_48 _ 0 (σ 168) (σ 170) rfl (by omega) (by omega) (by intro i a b; omega)
  refine w_aload_n (pc' := 1) (i := 0) (by rfl) (by rfl) dX12_work_0 rfl ?_
  refine v_getI (pc' := 4) (ji := 49) rfl fg_X12_322 kd_133 dX12_work_1 rfl ?_
  refine w_aload_n (pc' := 5) (i := 0) (by rfl) (by rfl) dX12_work_4 rfl ?_
  refine v_getI (pc' := 8) (ji := 7) rfl fg_X12_20 kd_133 dX12_work_5 rfl ?_
  rw [(hq).rd (k := 133) (i := 7) (.inr rfl)]
  refine w_icmp_ne (pc' := 11) (t := 28) dX12_work_8 rfl rfl (fun c_8 => ?_) (fun c_8 => ?_)
  · skip
    exact hj_28
  · skip
    refine w_aload_n (pc' := 12) (i := 0) (by rfl) (by rfl) dX12_work_11 rfl ?_
    refine v_getI (pc' := 15) (ji := 47) rfl fg_X12_127 kd_133 dX12_work_12 rfl ?_
    refine w_iload_n (pc' := 16) (i := 1) (by rfl) (by rfl) dX12_work_15 rfl ?_
    refine w_icmp_ne (pc' := 19) (t := 28) dX12_work_16 rfl rfl (fun c_16 => ?_) (fun c_16 => ?_)
    · skip
      exact hj_28
    · skip
      refine w_aload_n (pc' := 20) (i := 0) (by rfl) (by rfl) dX12_work_19 rfl ?_
      refine v_getI (pc' := 23) (ji := 48) rfl fg_X12_130 kd_133 dX12_work_20 rfl ?_
      refine w_iload_n (pc' := 24) (i := 2) (by rfl) (by rfl) dX12_work_23 rfl ?_
      refine w_icmp_ne (pc' := 27) (t := 28) dX12_work_24 rfl rfl (fun c_24 => ?_) (fun c_24 => ?_)
      · skip
        exact hj_28
      · skip
        refine w_return rfl dX12_work_27 ?_
        have k := work_hit hI hq (by omega)
        rw [show σ 133 47 = d by omega, show σ 133 48 = t by omega] at k
        exact ⟨rfl, hq, KW.refl, k⟩
