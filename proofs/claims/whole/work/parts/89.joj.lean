/-! joined: the reference, the whole (gen/mod_joj.py) -/
theorem CLR_aug {E G lo x : Int} {F : Int → Int → Prop} {Y : Int → Prop} {M M2 N2 : Int → Int} {R : Int → Prop} (h : AUG E G F Y lo M x M2 N2) (hR : ∀ r, R r → 0 ≤ r ∧ r < E) (hc : CLR E G F Y M R) : CLR E G F Y M2 R := fun r g hr g0 g1 hy hf => by
  obtain ⟨r', a, b, c, d⟩ := hc r g hr g0 g1 hy hf
  exact ⟨r', a, b, c, by rw [h.2.2.2.2 R hc r' a b c]; exact d⟩
theorem fix_s {E G : Int} {F : Int → Int → Prop} {y : Int} {M M2 X : Int → Int} (h2 : MT E G F M2) (hy : 0 ≤ y ∧ y < E) (hl : ∀ i, 0 ≤ i → i < y → M2 i = M i) (hfx : ∀ g, 0 ≤ g → g < G → (X g = 0 ↔ ∀ i, 0 ≤ i → i < y → M i ≠ g)) :
    (M2 y ≠ -1 → ∀ g, 0 ≤ g → g < G → (updI X (M2 y) 1 g = 0 ↔ ∀ i, 0 ≤ i → i < y + 1 → M2 i ≠ g)) ∧ (M2 y = -1 → ∀ g, 0 ≤ g → g < G → (X g = 0 ↔ ∀ i, 0 ≤ i → i < y + 1 → M2 i ≠ g)) := by
  have old : ∀ g, 0 ≤ g → g < G → M2 y ≠ g → (X g = 0 ↔ ∀ i, 0 ≤ i → i < y + 1 → M2 i ≠ g) := fun g g0 g1 hn => by
    rw [hfx g g0 g1]
    refine ⟨fun w i i0 i1 => ?_, fun w i i0 i1 => by rw [← hl i i0 i1]; exact w i i0 (by omega)⟩
    by_cases c : i = y
    · rw [c]; exact hn
    · rw [hl i i0 (by omega)]; exact w i i0 (by omega)
  refine ⟨fun _ g g0 g1 => ?_, fun k g g0 g1 => old g g0 g1 (by omega)⟩
  by_cases c : g = M2 y
  · rw [c, updI_eq]
    exact ⟨fun w => absurd w (by decide), fun w => absurd rfl (w y hy.1 (by omega))⟩
  · rw [updI_ne c]
    exact old g g0 g1 (fun k => c k.symm)
set_option maxHeartbeats 4000000 in
theorem q_join {σ0 σ : gH} (hI : Inv σ0) (hq : QM σ0 σ) (t : Int) : Mt mX12_join 4 [gR 133, gI t] σ (fun v σ' => v = gX 1 ∧ QM σ0 σ' ∧ ISL (σ0 112 8) (σ0 41 11) (fitP σ0 t) (σ' 199) ∧ σ' 133 0 = σ 133 0 ∧ σ' 208 = σ 208) := by
  refine Mt.walk (ls := [gR 133, gI t, gX 1, gX 1, gX 1]) pn_X12 rfl (fun _ _ h => by cases h.1) (Nat.le_of_ble_eq_true rfl) rfl ?_
  have hz := hI.f.hz
  have hp60 := hI.f.hp
  have hen0 := hI.f.ent.2.1
  have hen := hI.f.ent.2.2.1
  refine w_iconst (pc' := 1) (by decide) dX12_join_0 rfl ?_
  refine w_istore_n (pc' := 2) (i := 2) (ls' := [gR 133, gI t, gI 0, gX 1, gX 1]) (by rfl) (by decide) (by rfl) dX12_join_1 rfl ?_
  have hl_2 : ∀ (mm : Nat) (g : Int) (N X : Int → Int), ((σ0 41 11) - g).toNat = mm → (0 ≤ g) → (g ≤ (σ0 41 11)) → (∀ z, 0 ≤ z → z < g → N z = -1 ∧ X z = 0) → Wp mX12_join 4 (fun v σ' => v = gX 1 ∧ QM σ0 σ' ∧ ISL (σ0 112 8) (σ0 41 11) (fitP σ0 t) (σ' 199) ∧ σ' 133 0 = σ 133 0 ∧ σ' 208 = σ 208) (gUr (gUr σ 200 N) 198 X) 2 [gR 133, gI t, gI g, gX 1, gX 1] [] := by
    intro m_2
    induction m_2 using Nat.strongRecOn with
    | _ m_2 ih_2 =>
      intro g N X hmeas_2 g0 g1 hNX
      refine w_iload_n (pc' := 3) (i := 2) (by rfl) (by rfl) dX12_join_2 rfl ?_
      refine w_aload_n (pc' := 4) (i := 0) (by rfl) (by rfl) dX12_join_3 rfl ?_
      refine v_getI (pc' := 7) (ji := 42) rfl fg_X12_313 kd_133 dX12_join_4 rfl ?_
      show Wp _ _ _ _ _ _ [gI (σ 133 42), gI g]
      rw [(hq).rd (k := 133) (i := 42) (.inr rfl)]
      rw [hI.f42]
      refine w_icmp_ge (pc' := 10) (t := 30) dX12_join_7 rfl rfl (fun c_7 => ?_) (fun c_7 => ?_)
      · skip
        refine w_iconst (pc' := 31) (by decide) dX12_join_30 rfl ?_
        refine w_istore_n (pc' := 32) (i := 2) (ls' := [gR 133, gI t, gI 0, gX 1, gX 1]) (by rfl) (by decide) (by rfl) dX12_join_31 rfl ?_
        have hl_32 : ∀ (mm : Nat) (e : Int) (σv : gH), ((σ0 112 8) - e).toNat = mm → (0 ≤ e) → (e ≤ (σ0 112 8)) → (QM σ0 σv) → (σv 133 0 = σ 133 0) → (σv 208 = σ 208) → (∀ i, 0 ≤ i → i < e → σv 199 i = -1) → (∀ z, 0 ≤ z → z < σ0 41 11 → σv 200 z = -1 ∧ σv 198 z = 0) → (∀ i z, 0 ≤ i → i < e → 0 ≤ z → z < σ0 41 11 → (σv 197 (120 * i + z) ≠ 0 ↔ fitP σ0 t i z)) → Wp mX12_join 4 (fun v σ' => v = gX 1 ∧ QM σ0 σ' ∧ ISL (σ0 112 8) (σ0 41 11) (fitP σ0 t) (σ' 199) ∧ σ' 133 0 = σ 133 0 ∧ σ' 208 = σ 208) σv 32 [gR 133, gI t, gI e, gX 1, gX 1] [] := by
          intro m_32
          induction m_32 using Nat.strongRecOn with
          | _ m_32 ih_32 =>
            intro e σv hmeas_32 e0 e1 hqv hx0 hx8 hMv hNv hBv
            have her := fun h : e < σ0 112 8 => ent_row hI e0 h
            refine w_iload_n (pc' := 33) (i := 2) (by rfl) (by rfl) dX12_join_32 rfl ?_
            refine w_aload_n (pc' := 34) (i := 0) (by rfl) (by rfl) dX12_join_33 rfl ?_
            refine v_getI (pc' := 37) (ji := 99) rfl fg_X12_562 kd_133 dX12_join_34 rfl ?_
            rw [(hqv).rd (k := 133) (i := 99) (.inr rfl)]
            rw [hI.f99]
            refine w_icmp_ge (pc' := 40) (t := 134) dX12_join_37 rfl rfl (fun c_37 => ?_) (fun c_37 => ?_)
            · skip
              refine w_iconst (pc' := 135) (by decide) dX12_join_134 rfl ?_
              refine w_istore_n (pc' := 136) (i := 2) (ls' := [gR 133, gI t, gI 0, gX 1, gX 1]) (by rfl) (by decide) (by rfl) dX12_join_135 rfl ?_
              have hE : 0 ≤ (σ0 112 8) ∧ (σ0 112 8) ≤ 100 := ⟨hen0, hen⟩
              have hG : 0 ≤ (σ0 41 11) ∧ (σ0 41 11) ≤ 120 := ⟨hz.1, hz.2.1⟩
              have e42 : σv 133 42 = (σ0 41 11) := (hqv.rd (.inr rfl)).trans hI.f42
              have e99 : σv 133 99 = (σ0 112 8) := (hqv.rd (.inr rfl)).trans hI.f99
              have hF : ∀ e g, 0 ≤ e → e < (σ0 112 8) → 0 ≤ g → g < (σ0 41 11) → (σv 197 (120 * e + g) ≠ 0 ↔ (fitP σ0 t) e g) := fun i z a b c d => hBv i z a (by omega) c d
              have hY : ∀ g, 0 ≤ g → g < (σ0 41 11) → (σv 198 g = 0 ↔ (fun _ : Int => True) g) := fun g a b => ⟨fun _ => trivial, fun _ => (hNv g a b).2⟩
              have hl_136 : ∀ (mm : Nat) (x : Int) (C Q M N : Int → Int) (R : Int → Prop), ((σ0 112 8) - x).toNat = mm → (0 ≤ x) → (x ≤ (σ0 112 8)) → (MT (σ0 112 8) (σ0 41 11) (fitP σ0 t) M) → (MN (σ0 112 8) (σ0 41 11) M N) → (∀ i, 0 ≤ i → i < x → M i = -1 → R i) → (∀ i, x ≤ i → i < (σ0 112 8) → M i = -1) → (∀ r, R r → 0 ≤ r ∧ r < (σ0 112 8)) → (CLR (σ0 112 8) (σ0 41 11) (fitP σ0 t) (fun _ => True) M R) → Wp mX12_join 4 (fun v σ' => v = gX 1 ∧ QM σ0 σ' ∧ ISL (σ0 112 8) (σ0 41 11) (fitP σ0 t) (σ' 199) ∧ σ' 133 0 = σ 133 0 ∧ σ' 208 = σ 208) (gUr (gUr (gUr (gUr σv 201 C) 202 Q) 199 M) 200 N) 136 [gR 133, gI t, gI x, gX 1, gX 1] [] := by
                intro m_136
                induction m_136 using Nat.strongRecOn with
                | _ m_136 ih_136 =>
                  intro x C Q M N R hmeas_136 x0 x1 hM hN hgp hfr hR hcl
                  have hYN : ∀ g, 0 ≤ g → g < (σ0 41 11) → (fun _ : Int => True) g → N g = -1 ∨ 0 ≤ N g := fun g a b _ => (hN.1 g a b).imp id (fun q => q.1)
                  refine w_iload_n (pc' := 137) (i := 2) (by rfl) (by rfl) dX12_join_136 rfl ?_
                  refine w_aload_n (pc' := 138) (i := 0) (by rfl) (by rfl) dX12_join_137 rfl ?_
                  refine v_getI (pc' := 141) (ji := 99) rfl fg_X12_562 kd_133 dX12_join_138 rfl ?_
                  show Wp _ _ _ _ _ _ [gI (σv 133 99), gI x]
                  rw [(hqv).rd (k := 133) (i := 99) (.inr rfl)]
                  rw [hI.f99]
                  refine w_icmp_ge (pc' := 144) (t := 156) dX12_join_141 rfl rfl (fun c_141 => ?_) (fun c_141 => ?_)
                  · skip
                    refine w_iconst (pc' := 157) (by decide) dX12_join_156 rfl ?_
                    refine w_istore_n (pc' := 158) (i := 2) (ls' := [gR 133, gI t, gI 0, gX 1, gX 1]) (by rfl) (by decide) (by rfl) dX12_join_157 rfl ?_
                    have hl_158 : ∀ (mm : Nat) (y : Int) (C Q M N X : Int → Int), ((σ0 112 8) - y).toNat = mm → (0 ≤ y) → (y ≤ (σ0 112 8)) → (PHS (σ0 112 8) (σ0 41 11) (fitP σ0 t) y M) → (MN (σ0 112 8) (σ0 41 11) M N) → (∀ g, 0 ≤ g → g < (σ0 41 11) → (X g = 0 ↔ ∀ i, 0 ≤ i → i < y → M i ≠ g)) → Wp mX12_join 4 (fun v σ' => v = gX 1 ∧ QM σ0 σ' ∧ ISL (σ0 112 8) (σ0 41 11) (fitP σ0 t) (σ' 199) ∧ σ' 133 0 = σ 133 0 ∧ σ' 208 = σ 208) (gUr (gUr (gUr (gUr (gUr σv 201 C) 202 Q) 199 M) 200 N) 198 X) 158 [gR 133, gI t, gI y, gX 1, gX 1] [] := by
                      intro m_158
                      induction m_158 using Nat.strongRecOn with
                      | _ m_158 ih_158 =>
                        intro y C Q M N X hmeas_158 y0 y1 hPH hN hfx
                        refine w_iload_n (pc' := 159) (i := 2) (by rfl) (by rfl) dX12_join_158 rfl ?_
                        refine w_aload_n (pc' := 160) (i := 0) (by rfl) (by rfl) dX12_join_159 rfl ?_
                        refine v_getI (pc' := 163) (ji := 99) rfl fg_X12_562 kd_133 dX12_join_160 rfl ?_
                        show Wp _ _ _ _ _ _ [gI (σv 133 99), gI y]
                        rw [(hqv).rd (k := 133) (i := 99) (.inr rfl)]
                        rw [hI.f99]
                        refine w_icmp_ge (pc' := 166) (t := 199) dX12_join_163 rfl rfl (fun c_163 => ?_) (fun c_163 => ?_)
                        · skip
                          refine w_return rfl dX12_join_199 ?_
                          exact ⟨rfl, (QM.ur (k := 198) (f := X) (QM.ur (k := 200) (f := N) (QM.ur (k := 199) (f := M) (QM.ur (k := 202) (f := Q) (QM.ur (k := 201) (f := C) hqv (lm_nfC 201 (by decide)) (fun h => h)) (lm_nfC 202 (by decide)) (fun h => h)) (lm_nfC 199 (by decide)) (fun h => h)) (lm_nfC 200 (by decide)) (fun h => h)) (lm_nfC 198 (by decide)) (fun h => h)), by have h9 := hPH; rw [show y = (σ0 112 8) by omega] at h9; exact h9, hx0, hx8⟩
                        · skip
                          refine w_aload_n (pc' := 167) (i := 0) (by rfl) (by rfl) dX12_join_166 rfl ?_
                          refine w_iload_n (pc' := 168) (i := 2) (by rfl) (by rfl) dX12_join_167 rfl ?_
                          refine w_callV (pc' := 171) (d' := 3) (av := [gI y]) mi_mX12_lessen lk_X12_574 rfl ci_X12 kd_133 rfl (Nat.le_of_ble_eq_true rfl) (Nat.le_of_ble_eq_true rfl) dX12_join_168 rfl (q_lessen (σ := gUr (gUr (gUr (gUr (gUr σv 201 C) 202 Q) 199 M) 200 N) 198 X) hE hG e42 e99 hF y (by omega) hPH hN hfx) (fun v_168 σ_168 q_168 => ?_)
                          obtain ⟨rfl, M168, N168, C168, Q168, rfl, hp168, hn168, hl168⟩ := q_168
                          refine Wp.heq (σ' := gUr (gUr (gUr (gUr (gUr σv 201 C168) 202 Q168) 199 M168) 200 N168) 198 X) ((congrArg (fun z => gUr z 200 N168) ((congrArg (fun z => gUr z 199 M168) ((congrArg (fun z => gUr z 202 Q168) ((gUr_cr (by decide)).trans (congrArg (fun z => gUr z 198 X) ((gUr_cr (by decide)).trans (congrArg (fun z => gUr z 200 N) ((gUr_cr (by decide)).trans (congrArg (fun z => gUr z 199 M) ((gUr_cr (by decide)).trans (congrArg (fun z => gUr z 202 Q) gUr_same))))))))).trans ((gUr_cr (by decide)).trans (congrArg (fun z => gUr z 198 X) ((gUr_cr (by decide)).trans (congrArg (fun z => gUr z 200 N) ((gUr_cr (by decide)).trans (congrArg (fun z => gUr z 199 M) gUr_same)))))))).trans ((gUr_cr (by decide)).trans (congrArg (fun z => gUr z 198 X) ((gUr_cr (by decide)).trans (congrArg (fun z => gUr z 200 N) gUr_same)))))).trans ((gUr_cr (by decide)).trans (congrArg (fun z => gUr z 198 X) gUr_same))) ?_
                          show Wp _ _ _ _ _ _ []
                          have hgy : ∀ _ : Unit, _ := fun _ => hp168.1.1.1 y y0 (by omega)
                          refine w_aload_n (pc' := 172) (i := 0) (by rfl) (by rfl) dX12_join_171 rfl ?_
                          refine w_getS (pc' := 175) (q := 199) fg_X12_217 kd_133 sf_X12_102 gr_133_102 dX12_join_172 rfl ?_
                          refine w_iload_n (pc' := 176) (i := 2) (by rfl) (by rfl) dX12_join_175 rfl ?_
                          refine w_iald (pc' := 177) kd_199 (by omega) (by omega) dX12_join_176 rfl ?_
                          show Wp _ _ _ _ _ _ [gI (M168 y)]
                          refine w_iconst (pc' := 178) (by decide) dX12_join_177 rfl ?_
                          refine w_icmp_eq (pc' := 181) (t := 193) dX12_join_178 rfl rfl (fun c_178 => ?_) (fun c_178 => ?_)
                          · skip
                            refine v_iinc (pc' := 196) (x := y) (ls' := [gR 133, gI t, gI (y + 1), gX 1, gX 1]) (by omega) (by decide) (by rfl) (by rfl) dX12_join_193 rfl ?_
                            refine w_goto (pc' := 158) dX12_join_196 rfl ?_
                            have fs := fix_s hp168.1.1 ⟨y0, by omega⟩ hl168 hfx
                            exact ih_158 _ (by omega) (y + 1) C168 Q168 M168 N168 X rfl (by omega) (by omega) (by exact hp168) (by exact hn168) (by first | exact fs.1 (by omega) | exact fs.2 (by omega))
                          · skip
                            refine w_aload_n (pc' := 182) (i := 0) (by rfl) (by rfl) dX12_join_181 rfl ?_
                            refine w_getS (pc' := 185) (q := 198) fg_X12_214 kd_133 sf_X12_101 gr_133_101 dX12_join_182 rfl ?_
                            refine w_aload_n (pc' := 186) (i := 0) (by rfl) (by rfl) dX12_join_185 rfl ?_
                            refine w_getS (pc' := 189) (q := 199) fg_X12_217 kd_133 sf_X12_102 gr_133_102 dX12_join_186 rfl ?_
                            refine w_iload_n (pc' := 190) (i := 2) (by rfl) (by rfl) dX12_join_189 rfl ?_
                            refine w_iald (pc' := 191) kd_199 (by omega) (by omega) dX12_join_190 rfl ?_
                            show Wp _ _ _ _ _ _ [gI (M168 y), gR 198]
                            refine w_iconst (pc' := 192) (by decide) dX12_join_191 rfl ?_
                            refine w_zast (pc' := 193) kd_198 (.inr rfl) (by have := hgy (); omega) (by have := hgy (); omega) dX12_join_192 rfl ?_
                            refine Wp.heq (σ' := gUr (gUr (gUr (gUr (gUr σv 201 C168) 202 Q168) 199 M168) 200 N168) 198 (updI X (M168 y) 1)) gUp_row ?_
                            refine v_iinc (pc' := 196) (x := y) (ls' := [gR 133, gI t, gI (y + 1), gX 1, gX 1]) (by omega) (by decide) (by rfl) (by rfl) dX12_join_193 rfl ?_
                            refine w_goto (pc' := 158) dX12_join_196 rfl ?_
                            have fs := fix_s hp168.1.1 ⟨y0, by omega⟩ hl168 hfx
                            exact ih_158 _ (by omega) (y + 1) C168 Q168 M168 N168 (updI X (M168 y) 1) rfl (by omega) (by omega) (by exact hp168) (by exact hn168) (by first | exact fs.1 (by omega) | exact fs.2 (by omega))
                    refine Wp.heq (σ' := gUr (gUr (gUr (gUr (gUr σv 201 C) 202 Q) 199 M) 200 N) 198 (σv 198)) gUr_id.symm ?_
                    exact hl_158 _ 0 C Q M N (σv 198) rfl (by omega) (by omega) (by exact ⟨konig0 hM hN (fun i a b c => hgp i a (by omega) c) hR hcl, fun i a b => by omega⟩) (by exact hN) (by intro g a b; exact ⟨fun _ i p q => by omega, fun _ => (hNv g a b).2⟩)
                  · skip
                    refine w_aload_n (pc' := 145) (i := 0) (by rfl) (by rfl) dX12_join_144 rfl ?_
                    refine w_iload_n (pc' := 146) (i := 2) (by rfl) (by rfl) dX12_join_145 rfl ?_
                    refine w_callV (pc' := 149) (d' := 1) (av := [gI x]) mi_mX12_finds lk_X12_571 rfl ci_X12 kd_133 rfl (Nat.le_of_ble_eq_true rfl) (Nat.le_of_ble_eq_true rfl) dX12_join_146 rfl (q_finds2 (σ := gUr (gUr (gUr (gUr σv 201 C) 202 Q) 199 M) 200 N) (lo := 0) (Y := fun _ => True) hE hG (by omega) e42 hF hY hM hN x (by omega) (hfr x (by omega) (by omega)) hYN) (fun v_146 σ_146 q_146 => ?_)
                    obtain ⟨b146, M146, N146, C146, Q146, rfl, rfl, hr146⟩ := q_146
                    refine Wp.heq (σ' := gUr (gUr (gUr (gUr σv 201 C146) 202 Q146) 199 M146) 200 N146) ((congrArg (fun z => gUr z 200 N146) ((congrArg (fun z => gUr z 199 M146) ((congrArg (fun z => gUr z 202 Q146) ((gUr_cr (by decide)).trans (congrArg (fun z => gUr z 200 N) ((gUr_cr (by decide)).trans (congrArg (fun z => gUr z 199 M) ((gUr_cr (by decide)).trans (congrArg (fun z => gUr z 202 Q) gUr_same))))))).trans ((gUr_cr (by decide)).trans (congrArg (fun z => gUr z 200 N) ((gUr_cr (by decide)).trans (congrArg (fun z => gUr z 199 M) gUr_same)))))).trans ((gUr_cr (by decide)).trans (congrArg (fun z => gUr z 200 N) gUr_same)))).trans gUr_same) ?_
                    show Wp _ _ _ _ _ _ [gI b146]
                    refine w_pop (pc' := 150) dX12_join_149 rfl ?_
                    refine v_iinc (pc' := 153) (x := x) (ls' := [gR 133, gI t, gI (x + 1), gX 1, gX 1]) (by omega) (by decide) (by rfl) (by rfl) dX12_join_150 rfl ?_
                    refine w_goto (pc' := 136) dX12_join_153 rfl ?_
                    obtain ⟨m1, m2, m3, m4, m5, m6, R9, m7⟩ : MT (σ0 112 8) (σ0 41 11) (fitP σ0 t) M146 ∧ MN (σ0 112 8) (σ0 41 11) M146 N146 ∧ (∀ i, 0 ≤ i → i < (σ0 112 8) → i ≠ x → (M146 i = -1 ↔ M i = -1)) ∧ True ∧ True ∧ True ∧ ∃ R9 : Int → Prop, (M146 x = -1 → R9 x) ∧ (∀ r, R9 r → 0 ≤ r ∧ r < (σ0 112 8)) ∧ CLR (σ0 112 8) (σ0 41 11) (fitP σ0 t) (fun _ => True) M146 (fun r => R r ∨ R9 r) := by
                      rcases hr146 with k | ⟨_, k1, k2, R9, k3, k4, k5⟩
                      · have k2 := k.2
                        refine ⟨k2.1, k2.2.1, k2.2.2.2.1.2.2.2.2, trivial, trivial, trivial, fun _ => False, fun a => absurd a k2.2.2.2.1.2.2.2.1, fun _ h => h.elim, ?_⟩
                        exact CLR_or (CLR_aug k2 hR hcl) (fun _ _ h => h.elim)
                      · have k1' : M146 = M := k1
                        have k2' : N146 = N := k2
                        subst k1' k2'
                        exact ⟨hM, hN, fun _ _ _ _ => Iff.rfl, trivial, trivial, trivial, R9, fun _ => k3, k4, CLR_or hcl k5⟩
                    exact ih_136 _ (by omega) (x + 1) C146 Q146 M146 N146 (fun r => R r ∨ R9 r) rfl (by omega) (by omega) (by exact m1) (by exact m2) (by intro i a b c; by_cases k : i = x; (rw [k] at c; rw [k]; exact Or.inr (m7.1 c)); exact Or.inl (hgp i a (by omega) ((m3 i a (by omega) k).mp c))) (by intro i a b; exact (m3 i (by omega) b (by omega)).mpr (hfr i (by omega) b)) (by intro r h; rcases h with h | h; exact hR r h; exact m7.2.1 r h) (by exact m7.2.2)
              refine Wp.heq (σ' := gUr (gUr (gUr (gUr σv 201 (σv 201)) 202 (σv 202)) 199 (σv 199)) 200 (σv 200)) rows4 ?_
              exact hl_136 _ 0 (σv 201) (σv 202) (σv 199) (σv 200) (fun _ => False) rfl (by omega) (by omega) (by exact ⟨fun i a b => Or.inl (hMv i a (by omega)), fun i j a b c d k n => absurd (hMv i a (by omega)) n⟩) (by exact ⟨fun z a b => Or.inl (hNv z a b).1, fun i a b n => absurd (hMv i a (by omega)) n⟩) (by intro i a b; omega) (by intro i a b; exact hMv i a (by omega)) (by intro r h; exact h.elim) (by intro r g h; exact h.elim)
            · skip
              refine w_aload_n (pc' := 41) (i := 0) (by rfl) (by rfl) dX12_join_40 rfl ?_
              refine w_getS (pc' := 44) (q := 199) fg_X12_217 kd_133 sf_X12_102 gr_133_102 dX12_join_41 rfl ?_
              refine w_iload_n (pc' := 45) (i := 2) (by rfl) (by rfl) dX12_join_44 rfl ?_
              refine w_iconst (pc' := 46) (by decide) dX12_join_45 rfl ?_
              refine w_iast (pc' := 47) kd_199 (by omega) (by omega) dX12_join_46 rfl ?_
              refine w_aload_n (pc' := 48) (i := 0) (by rfl) (by rfl) dX12_join_47 rfl ?_
              refine w_getS (pc' := 51) (q := 195) fg_X12_205 kd_133 sf_X12_97 gr_133_97 dX12_join_48 rfl ?_
              refine w_iload_n (pc' := 52) (i := 2) (by rfl) (by rfl) dX12_join_51 rfl ?_
              refine w_iald (pc' := 53) kd_195 (by omega) (by omega) dX12_join_52 rfl ?_
              show Wp _ _ _ _ _ _ [gI (σv 195 e)]
              rw [(hqv).rd (k := 195) (i := e) (.inr rfl)]
              rw [hI.e195 (i := e) (by omega) (by omega)]
              refine w_iload_n (pc' := 54) (i := 1) (by rfl) (by rfl) dX12_join_53 rfl ?_
              refine w_icmp_gt (pc' := 57) (t := 61) dX12_join_54 rfl rfl (fun c_54 => ?_) (fun c_54 => ?_)
              · skip
                refine w_iconst (pc' := 62) (by decide) dX12_join_61 rfl ?_
                refine w_istore_n (pc' := 63) (i := 3) (ls' := [gR 133, gI t, gI e, gI 0, gX 1]) (by rfl) (by decide) (by rfl) dX12_join_62 rfl ?_
                refine w_iload_n (pc' := 64) (i := 3) (by rfl) (by rfl) dX12_join_63 rfl ?_
                refine w_if_eq (pc' := 67) (t := 78) dX12_join_64 rfl rfl (fun c_64 => ?_) (fun c_64 => ?_)
                · skip
                  refine w_iconst (pc' := 79) (by decide) dX12_join_78 rfl ?_
                  refine w_istore (pc' := 81) (ls' := [gR 133, gI t, gI e, gI 0, gI 0]) (by decide) (by rfl) dX12_join_79 rfl ?_
                  have hl_81 : ∀ (mm : Nat) (g : Int) (B : Int → Int), ((σ0 41 11) - g).toNat = mm → (0 ≤ g) → (g ≤ (σ0 41 11)) → (∀ z, 0 ≤ z → z < g → (B (120 * e + z) ≠ 0 ↔ fitP σ0 t e z)) → (∀ i z, 0 ≤ i → i < e → 0 ≤ z → z < σ0 41 11 → (B (120 * i + z) ≠ 0 ↔ fitP σ0 t i z)) → Wp mX12_join 4 (fun v σ' => v = gX 1 ∧ QM σ0 σ' ∧ ISL (σ0 112 8) (σ0 41 11) (fitP σ0 t) (σ' 199) ∧ σ' 133 0 = σ 133 0 ∧ σ' 208 = σ 208) (gUr (gUp σv 199 e (-1)) 197 B) 81 [gR 133, gI t, gI e, gI 0, gI g] [] := by
                    intro m_81
                    induction m_81 using Nat.strongRecOn with
                    | _ m_81 ih_81 =>
                      intro g B hmeas_81 g0 g1 hB1 hB2
                      refine w_iload (pc' := 83) (by rfl) dX12_join_81 rfl ?_
                      refine w_aload_n (pc' := 84) (i := 0) (by rfl) (by rfl) dX12_join_83 rfl ?_
                      refine v_getI (pc' := 87) (ji := 42) rfl fg_X12_313 kd_133 dX12_join_84 rfl ?_
                      show Wp _ _ _ _ _ _ [gI (σv 133 42), gI g]
                      rw [(hqv).rd (k := 133) (i := 42) (.inr rfl)]
                      rw [hI.f42]
                      refine w_icmp_ge (pc' := 90) (t := 128) dX12_join_87 rfl rfl (fun c_87 => ?_) (fun c_87 => ?_)
                      · skip
                        refine v_iinc (pc' := 131) (x := e) (ls' := [gR 133, gI t, gI (e + 1), gI 0, gI g]) (by omega) (by decide) (by rfl) (by rfl) dX12_join_128 rfl ?_
                        refine w_goto (pc' := 32) dX12_join_131 rfl ?_
                        refine Wp.lose (ls' := [gR 133, gI t, gI (e + 1), gX 1, gX 1]) ⟨.inr rfl, ⟨.inr rfl, ⟨.inr rfl, ⟨.inl rfl, ⟨.inl rfl, trivial⟩⟩⟩⟩⟩ ?_
                        have qb : QM σ0 (gUr (gUp σv 199 e (-1)) 197 B) := (QM.ur (k := 197) (f := B) (QM.up (k := 199) (i := e) (v := (-1)) hqv (lm_nfC 199 (by decide) _) (fun h => h)) (lm_nfC 197 (by decide)) (fun h => h))
                        have k9 : ∀ i, gUp σv 199 e (-1) 199 i = gUp σv 199 e (-1) 199 i := fun _ => rfl
                        have k20 : ∀ i, σv 200 i = σv 200 i := fun _ => rfl
                        have k98 : ∀ i, σv 198 i = σv 198 i := fun _ => rfl
                        have k0 : σv 133 0 = σv 133 0 := rfl
                        have k8 : σv 208 = σv 208 := rfl
                        exact ih_32 _ (by omega) (e + 1) (gUr (gUp σv 199 e (-1)) 197 B) rfl (by omega) (by omega) (by exact qb) (by exact k0.trans hx0) (by exact k8.trans hx8) (by intro i a b; refine (k9 i).trans ?_; rw [gUp_at]; by_cases c : i = e; (rw [if_pos c]); rw [if_neg c]; exact hMv i a (by omega)) (by intro z a b; exact ⟨(k20 z).trans (hNv z a b).1, (k98 z).trans (hNv z a b).2⟩) (by intro i z a b z0 z1; by_cases c : i = e; (rw [c]; exact hB1 z z0 (by omega)); exact hB2 i z a (by omega) z0 z1)
                      · skip
                        refine w_aload_n (pc' := 91) (i := 0) (by rfl) (by rfl) dX12_join_90 rfl ?_
                        refine w_getS (pc' := 94) (q := 197) fg_X12_211 kd_133 sf_X12_100 gr_133_100 dX12_join_91 rfl ?_
                        refine w_bipush (pc' := 96) (by decide) (by decide) dX12_join_94 rfl ?_
                        refine w_iload_n (pc' := 97) (i := 2) (by rfl) (by rfl) dX12_join_96 rfl ?_
                        refine v_imul (pc' := 98) (by omega) dX12_join_97 rfl ?_
                        refine w_iload (pc' := 100) (by rfl) dX12_join_98 rfl ?_
                        refine v_iadd (pc' := 101) (by omega) dX12_join_100 rfl ?_
                        refine w_iload_n (pc' := 102) (i := 3) (by rfl) (by rfl) dX12_join_101 rfl ?_
                        refine w_if_eq (pc' := 105) (t := 120) dX12_join_102 rfl rfl (fun c_102 => ?_) (fun c_102 => ?_)
                        · skip
                          refine w_iconst (pc' := 121) (by decide) dX12_join_120 rfl ?_
                          refine w_zast (pc' := 122) kd_197 (.inl rfl) (by omega) (by omega) dX12_join_121 rfl ?_
                          refine Wp.heq (σ' := gUr (gUp σv 199 e (-1)) 197 (updI B ((120 * e) + g) 0)) gUp_row ?_
                          refine v_iinc (pc' := 125) (x := g) (ls' := [gR 133, gI t, gI e, gI 0, gI (g + 1)]) (by omega) (by decide) (by rfl) (by rfl) dX12_join_122 rfl ?_
                          refine w_goto (pc' := 81) dX12_join_125 rfl ?_
                          exact ih_81 _ (by omega) (g + 1) (updI B ((120 * e) + g) 0) rfl (by omega) (by omega) (by intro z a b; by_cases c : z = g; (rw [c, updI_eq]; first | exact ⟨fun _ => by omega, fun _ => by decide⟩ | exact ⟨fun k => absurd rfl k, fun k => by exfalso; omega⟩); rw [updI_ne (by omega)]; exact hB1 z a (by omega)) (by intro i z a b z0 z1; rw [updI_ne (by omega)]; exact hB2 i z a b z0 z1)
                        · skip
                          exact absurd c_102 (by decide)
                  refine Wp.heq (σ' := gUr (gUp σv 199 e (-1)) 197 ((gUp σv 199 e (-1)) 197)) gUr_id.symm ?_
                  exact hl_81 _ 0 ((gUp σv 199 e (-1)) 197) rfl (by omega) (by omega) (by intro z a b; omega) (by first | exact hBv | (intro i z a b z0 z1; rw [show σ75 197 (120 * i + z) = σv 197 (120 * i + z) from hk_75 197 _ rfl]; exact hBv i z a b z0 z1))
                · skip
                  exact absurd c_64 (by decide)
              · skip
                refine w_iconst (pc' := 58) (by decide) dX12_join_57 rfl ?_
                refine w_goto (pc' := 62) dX12_join_58 rfl ?_
                refine w_istore_n (pc' := 63) (i := 3) (ls' := [gR 133, gI t, gI e, gI 1, gX 1]) (by rfl) (by decide) (by rfl) dX12_join_62 rfl ?_
                refine w_iload_n (pc' := 64) (i := 3) (by rfl) (by rfl) dX12_join_63 rfl ?_
                refine w_if_eq (pc' := 67) (t := 78) dX12_join_64 rfl rfl (fun c_64 => ?_) (fun c_64 => ?_)
                · skip
                  exact absurd c_64 (by decide)
                · skip
                  refine w_aload_n (pc' := 68) (i := 0) (by rfl) (by rfl) dX12_join_67 rfl ?_
                  refine w_aload_n (pc' := 69) (i := 0) (by rfl) (by rfl) dX12_join_68 rfl ?_
                  refine w_getS (pc' := 72) (q := 193) fg_X12_199 kd_133 sf_X12_95 gr_133_95 dX12_join_69 rfl ?_
                  refine w_iload_n (pc' := 73) (i := 2) (by rfl) (by rfl) dX12_join_72 rfl ?_
                  refine w_iald (pc' := 74) kd_193 (by omega) (by omega) dX12_join_73 rfl ?_
                  show Wp _ _ _ _ _ _ [gI (σv 193 e), gR 133]
                  rw [(hqv).rd (k := 193) (i := e) (.inr rfl)]
                  rw [hI.e193 (i := e) (by omega) (by omega)]
                  refine w_iload_n (pc' := 75) (i := 1) (by rfl) (by rfl) dX12_join_74 rfl ?_
                  refine w_callV (pc' := 78) (d' := 2) (av := [gI (σ0 115 e), gI t]) mi_mX12_work lk_X12_349 rfl ci_X12 kd_133 rfl (Nat.le_of_ble_eq_true rfl) (Nat.le_of_ble_eq_true rfl) dX12_join_75 rfl (q_work hI (QM.up (k := 199) (i := e) (v := (-1)) hqv (lm_nfC 199 (by decide) _) (fun h => h)) (σ0 115 e) t) (fun v_75 σ75 q_75 => ?_)
                  obtain ⟨rfl, hq_75, hk_75, hw_75⟩ := q_75
                  show Wp _ _ _ _ _ _ []
                  refine w_iconst (pc' := 79) (by decide) dX12_join_78 rfl ?_
                  refine w_istore (pc' := 81) (ls' := [gR 133, gI t, gI e, gI 1, gI 0]) (by decide) (by rfl) dX12_join_79 rfl ?_
                  have hl_81 : ∀ (mm : Nat) (g : Int) (B : Int → Int), ((σ0 41 11) - g).toNat = mm → (0 ≤ g) → (g ≤ (σ0 41 11)) → (∀ z, 0 ≤ z → z < g → (B (120 * e + z) ≠ 0 ↔ fitP σ0 t e z)) → (∀ i z, 0 ≤ i → i < e → 0 ≤ z → z < σ0 41 11 → (B (120 * i + z) ≠ 0 ↔ fitP σ0 t i z)) → Wp mX12_join 4 (fun v σ' => v = gX 1 ∧ QM σ0 σ' ∧ ISL (σ0 112 8) (σ0 41 11) (fitP σ0 t) (σ' 199) ∧ σ' 133 0 = σ 133 0 ∧ σ' 208 = σ 208) (gUr σ75 197 B) 81 [gR 133, gI t, gI e, gI 1, gI g] [] := by
                    intro m_81
                    induction m_81 using Nat.strongRecOn with
                    | _ m_81 ih_81 =>
                      intro g B hmeas_81 g0 g1 hB1 hB2
                      refine w_iload (pc' := 83) (by rfl) dX12_join_81 rfl ?_
                      refine w_aload_n (pc' := 84) (i := 0) (by rfl) (by rfl) dX12_join_83 rfl ?_
                      refine v_getI (pc' := 87) (ji := 42) rfl fg_X12_313 kd_133 dX12_join_84 rfl ?_
                      show Wp _ _ _ _ _ _ [gI (σ75 133 42), gI g]
                      rw [(hq_75).rd (k := 133) (i := 42) (.inr rfl)]
                      rw [hI.f42]
                      refine w_icmp_ge (pc' := 90) (t := 128) dX12_join_87 rfl rfl (fun c_87 => ?_) (fun c_87 => ?_)
                      · skip
                        refine v_iinc (pc' := 131) (x := e) (ls' := [gR 133, gI t, gI (e + 1), gI 1, gI g]) (by omega) (by decide) (by rfl) (by rfl) dX12_join_128 rfl ?_
                        refine w_goto (pc' := 32) dX12_join_131 rfl ?_
                        refine Wp.lose (ls' := [gR 133, gI t, gI (e + 1), gX 1, gX 1]) ⟨.inr rfl, ⟨.inr rfl, ⟨.inr rfl, ⟨.inl rfl, ⟨.inl rfl, trivial⟩⟩⟩⟩⟩ ?_
                        have qb : QM σ0 (gUr σ75 197 B) := (QM.ur (k := 197) (f := B) hq_75 (lm_nfC 197 (by decide)) (fun h => h))
                        have k9 : ∀ i, σ75 199 i = gUp σv 199 e (-1) 199 i := fun i => hk_75 199 i rfl
                        have k20 : ∀ i, σ75 200 i = σv 200 i := fun i => hk_75 200 i rfl
                        have k98 : ∀ i, σ75 198 i = σv 198 i := fun i => hk_75 198 i rfl
                        have k0 : σ75 133 0 = σv 133 0 := hk_75 133 0 rfl
                        have k8 : σ75 208 = σv 208 := funext fun i => hk_75 208 i rfl
                        exact ih_32 _ (by omega) (e + 1) (gUr σ75 197 B) rfl (by omega) (by omega) (by exact qb) (by exact k0.trans hx0) (by exact k8.trans hx8) (by intro i a b; refine (k9 i).trans ?_; rw [gUp_at]; by_cases c : i = e; (rw [if_pos c]); rw [if_neg c]; exact hMv i a (by omega)) (by intro z a b; exact ⟨(k20 z).trans (hNv z a b).1, (k98 z).trans (hNv z a b).2⟩) (by intro i z a b z0 z1; by_cases c : i = e; (rw [c]; exact hB1 z z0 (by omega)); exact hB2 i z a (by omega) z0 z1)
                      · skip
                        refine w_aload_n (pc' := 91) (i := 0) (by rfl) (by rfl) dX12_join_90 rfl ?_
                        refine w_getS (pc' := 94) (q := 197) fg_X12_211 kd_133 sf_X12_100 gr_133_100 dX12_join_91 rfl ?_
                        refine w_bipush (pc' := 96) (by decide) (by decide) dX12_join_94 rfl ?_
                        refine w_iload_n (pc' := 97) (i := 2) (by rfl) (by rfl) dX12_join_96 rfl ?_
                        refine v_imul (pc' := 98) (by omega) dX12_join_97 rfl ?_
                        refine w_iload (pc' := 100) (by rfl) dX12_join_98 rfl ?_
                        refine v_iadd (pc' := 101) (by omega) dX12_join_100 rfl ?_
                        refine w_iload_n (pc' := 102) (i := 3) (by rfl) (by rfl) dX12_join_101 rfl ?_
                        refine w_if_eq (pc' := 105) (t := 120) dX12_join_102 rfl rfl (fun c_102 => ?_) (fun c_102 => ?_)
                        · skip
                          exact absurd c_102 (by decide)
                        · skip
                          refine w_aload_n (pc' := 106) (i := 0) (by rfl) (by rfl) dX12_join_105 rfl ?_
                          refine w_iload_n (pc' := 107) (i := 2) (by rfl) (by rfl) dX12_join_106 rfl ?_
                          refine w_iload (pc' := 109) (by rfl) dX12_join_107 rfl ?_
                          refine w_iload_n (pc' := 110) (i := 1) (by rfl) (by rfl) dX12_join_109 rfl ?_
                          refine v_callVE (pc' := 113) (st' := [gI (gb (fitP σ0 t e g)), gI ((120 * e) + g), gR 197]) (d' := 1) (av := [gI e, gI g, gI t]) mi_mX12_fit lk_X12_568 rfl ci_X12 kd_133 rfl (Nat.le_of_ble_eq_true rfl) (Nat.le_of_ble_eq_true rfl) dX12_join_110 rfl rfl (q_fit (σ := gUr σ75 197 B) hI (QM.ur (k := 197) (f := B) hq_75 (lm_nfC 197 (by decide)) (fun h => h)) e g t (by omega) (by omega) hw_75 (by omega)) ?_
                          refine v_if_eqB (pc' := 116) (t := 120) dX12_join_113 rfl rfl (fun c_113 => ?_) (fun c_113 => ?_)
                          · skip
                            refine w_iconst (pc' := 121) (by decide) dX12_join_120 rfl ?_
                            refine w_zast (pc' := 122) kd_197 (.inl rfl) (by omega) (by omega) dX12_join_121 rfl ?_
                            refine Wp.heq (σ' := gUr σ75 197 (updI B ((120 * e) + g) 0)) gUp_row ?_
                            refine v_iinc (pc' := 125) (x := g) (ls' := [gR 133, gI t, gI e, gI 1, gI (g + 1)]) (by omega) (by decide) (by rfl) (by rfl) dX12_join_122 rfl ?_
                            refine w_goto (pc' := 81) dX12_join_125 rfl ?_
                            exact ih_81 _ (by omega) (g + 1) (updI B ((120 * e) + g) 0) rfl (by omega) (by omega) (by intro z a b; by_cases c : z = g; (rw [c, updI_eq]; first | exact ⟨fun _ => by omega, fun _ => by decide⟩ | exact ⟨fun k => absurd rfl k, fun k => by exfalso; omega⟩); rw [updI_ne (by omega)]; exact hB1 z a (by omega)) (by intro i z a b z0 z1; rw [updI_ne (by omega)]; exact hB2 i z a b z0 z1)
                          · skip
                            refine w_iconst (pc' := 117) (by decide) dX12_join_116 rfl ?_
                            refine w_goto (pc' := 121) dX12_join_117 rfl ?_
                            refine w_zast (pc' := 122) kd_197 (.inr rfl) (by omega) (by omega) dX12_join_121 rfl ?_
                            refine Wp.heq (σ' := gUr σ75 197 (updI B ((120 * e) + g) 1)) gUp_row ?_
                            refine v_iinc (pc' := 125) (x := g) (ls' := [gR 133, gI t, gI e, gI 1, gI (g + 1)]) (by omega) (by decide) (by rfl) (by rfl) dX12_join_122 rfl ?_
                            refine w_goto (pc' := 81) dX12_join_125 rfl ?_
                            exact ih_81 _ (by omega) (g + 1) (updI B ((120 * e) + g) 1) rfl (by omega) (by omega) (by intro z a b; by_cases c : z = g; (rw [c, updI_eq]; first | exact ⟨fun _ => by omega, fun _ => by decide⟩ | exact ⟨fun k => absurd rfl k, fun k => by exfalso; omega⟩); rw [updI_ne (by omega)]; exact hB1 z a (by omega)) (by intro i z a b z0 z1; rw [updI_ne (by omega)]; exact hB2 i z a b z0 z1)
                  refine Wp.heq (σ' := gUr σ75 197 (σ75 197)) gUr_id.symm ?_
                  exact hl_81 _ 0 (σ75 197) rfl (by omega) (by omega) (by intro z a b; omega) (by first | exact hBv | (intro i z a b z0 z1; rw [show σ75 197 (120 * i + z) = σv 197 (120 * i + z) from hk_75 197 _ rfl]; exact hBv i z a b z0 z1))
        exact hl_32 _ 0 (gUr (gUr σ 200 N) 198 X) rfl (by omega) (by omega) (by exact (QM.ur (QM.ur hq (lm_nfC 200 (by decide)) (fun h => h)) (lm_nfC 198 (by decide)) (fun h => h))) (by rfl) (by rfl) (by intro i a b; omega) (by intro z a b; exact hNX z a (by omega)) (by intro i z a b; omega)
      · skip
        refine w_aload_n (pc' := 11) (i := 0) (by rfl) (by rfl) dX12_join_10 rfl ?_
        refine w_getS (pc' := 14) (q := 200) fg_X12_220 kd_133 sf_X12_103 gr_133_103 dX12_join_11 rfl ?_
        refine w_iload_n (pc' := 15) (i := 2) (by rfl) (by rfl) dX12_join_14 rfl ?_
        refine w_iconst (pc' := 16) (by decide) dX12_join_15 rfl ?_
        refine w_iast (pc' := 17) kd_200 (by omega) (by omega) dX12_join_16 rfl ?_
        refine Wp.heq (σ' := gUr (gUr σ 200 (updI N g (-1))) 198 X) ((gUp_cr (by decide)).trans (congrArg (fun z => gUr z 198 X) gUp_row)) ?_
        refine w_aload_n (pc' := 18) (i := 0) (by rfl) (by rfl) dX12_join_17 rfl ?_
        refine w_getS (pc' := 21) (q := 198) fg_X12_214 kd_133 sf_X12_101 gr_133_101 dX12_join_18 rfl ?_
        refine w_iload_n (pc' := 22) (i := 2) (by rfl) (by rfl) dX12_join_21 rfl ?_
        refine w_iconst (pc' := 23) (by decide) dX12_join_22 rfl ?_
        refine w_zast (pc' := 24) kd_198 (.inl rfl) (by omega) (by omega) dX12_join_23 rfl ?_
        refine Wp.heq (σ' := gUr (gUr σ 200 (updI N g (-1))) 198 (updI X g 0)) gUp_row ?_
        refine v_iinc (pc' := 27) (x := g) (ls' := [gR 133, gI t, gI (g + 1), gX 1, gX 1]) (by omega) (by decide) (by rfl) (by rfl) dX12_join_24 rfl ?_
        refine w_goto (pc' := 2) dX12_join_27 rfl ?_
        exact ih_2 _ (by omega) (g + 1) (updI N g (-1)) (updI X g 0) rfl (by omega) (by omega) (by intro z a b; by_cases e : z = g; (rw [e, updI_eq, updI_eq]; exact ⟨rfl, rfl⟩); rw [updI_ne e, updI_ne e]; exact hNX z a (by omega))
  refine Wp.heq (σ' := gUr (gUr σ 200 (σ 200)) 198 (σ 198)) (by rw [show gUr σ 200 (σ 200) = σ from gUr_id, show gUr σ 198 (σ 198) = σ from gUr_id]) ?_
  exact hl_2 _ 0 (σ 200) (σ 198) rfl (by omega) (by omega) (by intro z a b; omega)
