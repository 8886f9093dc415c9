/-! the greatest chain: the reference, the call (gen/mod_chd.py) -/
/-- the invariant but for OUT -/
def FAO (σ : gH) : Prop := (S_day σ ∧ S_tape σ ∧ S_party σ ∧ S_own σ ∧ S_kin σ ∧ S_post σ ∧ S_gift σ ∧ S_worth σ ∧ S_mem σ ∧ S_mat σ ∧ S_vote σ ∧ S_ent σ) ∧ S_law σ ∧ S_ord σ
def IW (σ : gH) : Prop := FAO σ ∧ CC σ ∧ C_mod σ
def FW (σ : gH) : Prop := S_party σ ∧ S_own σ
theorem FW.party {σ : gH} (h : FW σ) : S_party σ := h.1
theorem FW.own {σ : gH} (h : FW σ) : S_own σ := h.2
theorem FW.hp {σ : gH} (h : FW σ) : σ 3 2 ≤ 60 := h.party.2.2.1
theorem IW.f {σ : gH} (h : IW σ) : FW σ := ⟨h.1.1.2.2.1, h.1.1.2.2.2.1⟩
theorem IW.ord {σ : gH} (h : IW σ) : S_ord σ := h.1.2.2
theorem IW.mod {σ : gH} (h : IW σ) : C_mod σ := h.2.2
theorem Inv.w {σ : gH} (h : Inv σ) : IW σ := ⟨⟨⟨h.f.day, h.f.tape, h.f.party, h.f.own, h.f.kin, h.f.post, h.f.gift, h.f.worth, h.f.mem, h.f.mat, h.f.vote, h.f.ent⟩, h.1.2⟩, h.2⟩
theorem IW.inv {σ : gH} (h : IW σ) (o : S_out σ) : Inv σ := ⟨⟨⟨h.1.1.1, h.1.1.2.1, o, h.1.1.2.2⟩, h.1.2⟩, h.2⟩
theorem IW.f6 {σ : gH} (h : IW σ) : σ 133 6 = σ 3 2 := h.f.party.1
theorem IW.f14 {σ : gH} (h : IW σ) : σ 133 14 = σ 15 6 := h.f.own.1
theorem IW.e137 {σ : gH} (h : IW σ) {i : Int} (h0 : 0 ≤ i) (h1 : i < σ 15 6) : σ 137 i = σ 16 i := (h.f.own.2.2.2 i h0 h1).1
theorem IW.e138 {σ : gH} (h : IW σ) {i : Int} (h0 : 0 ≤ i) (h1 : i < σ 15 6) : σ 138 i = σ 17 i := (h.f.own.2.2.2 i h0 h1).2.1
theorem IW.e139 {σ : gH} (h : IW σ) {i : Int} (h0 : 0 ≤ i) (h1 : i < σ 15 6) : σ 139 i = σ 18 i := (h.f.own.2.2.2 i h0 h1).2.2.1
theorem IW.e140 {σ : gH} (h : IW σ) {i : Int} (h0 : 0 ≤ i) (h1 : i < σ 15 6) : σ 140 i = σ 19 i := (h.f.own.2.2.2 i h0 h1).2.2.2.1
theorem IW.e141 {σ : gH} (h : IW σ) {i : Int} (h0 : 0 ≤ i) (h1 : i < σ 15 6) : σ 141 i = ev (σ 20 i) := (h.f.own.2.2.2 i h0 h1).2.2.2.2.1
theorem IW.e142 {σ : gH} (h : IW σ) {i : Int} (h0 : 0 ≤ i) (h1 : i < σ 15 6) : σ 142 i = σ 21 i := (h.f.own.2.2.2 i h0 h1).2.2.2.2.2.1
theorem lm_FAO {σ σ' : gH} (h : lm σ' = lm σ) (hF : FAO σ) : FAO σ' := by
  have h1 : FAO (lm σ) := hF
  rw [← h] at h1
  exact h1
theorem QM.iw {σ σ' : gH} (q : QM σ σ') (h : IW σ) : IW σ' := ⟨lm_FAO q.1 h.1, lm_CC q.1 h.2.1, q.2⟩
theorem QM.reflW {σ : gH} (h : IW σ) : QM σ σ := ⟨rfl, h.2.2⟩
theorem own_rowW {σ : gH} (hI : IW σ) {r : Int} (h0 : 0 ≤ r) (h1 : r < σ 15 6) : (0 ≤ σ 16 r ∧ σ 16 r < σ 3 2) ∧ (0 ≤ σ 17 r ∧ σ 17 r < σ 3 2) ∧ σ 16 r ≠ σ 17 r ∧ 1 ≤ σ 18 r ∧ σ 18 r ≤ 10000 := by
  have k := (hI.f.own.2.2.2 r h0 h1).2.2.2.2.2.2
  unfold isHo isP at k
  exact ⟨k.1, k.2.1.1, k.2.2.1, k.2.2.2.1, k.2.2.2.2.1⟩
theorem apT_inW {σ : gH} (hI : IW σ) {d t x f r : Int} (h0 : 0 ≤ r) (h1 : r < σ 15 6) : 0 ≤ apT σ d t x f r ∧ apT σ d t x f r ≤ 10000 := by
  have k := own_rowW hI h0 h1
  unfold apT
  split <;> omega
theorem AR_inW {σ : gH} (hI : IW σ) (d t x f : Int) : 0 ≤ AR σ d t x f ∧ AR σ d t x f ≤ 10000 := by
  have e : AR σ d t x f = sumI (apT σ d t x f) (σ 15 6).toNat := rfl
  have hn := hI.f.own
  constructor
  · rw [e]
    exact sumI_nonneg fun j a b => (apT_inW hI a (by omega)).1
  · rw [e]
    refine Int.le_trans (sumI_le fun j a b => ?_) (hI.ord.2.2.2 f d)
    have k := own_rowW hI a (r := j) (by omega)
    unfold apT liv
    split
    · rw [if_pos (by omega)]; omega
    · split <;> omega
theorem AR_outW {σ : gH} (hI : IW σ) {d t x f : Int} (h : x < 0 ∨ σ 3 2 ≤ x ∨ f < 0 ∨ σ 3 2 ≤ f ∨ x = f) : AR σ d t x f = 0 := by
  have e : AR σ d t x f = sumI (apT σ d t x f) (σ 15 6).toNat := rfl
  have hn := hI.f.own
  have e2 : sumI (apT σ d t x f) (σ 15 6).toNat = sumI (fun _ => 0) (σ 15 6).toNat := sumI_congr fun j a b => by
    have k := own_rowW hI a (r := j) (by omega)
    unfold apT
    rw [if_neg (by omega)]
  rw [e, e2, sumI_zero]
theorem work_endW {σ0 σ : gH} (hI : IW σ0) (hq : QM σ0 σ) {d t : Int} {P H C : Int → Int} (hW : WK (AR σ0 d t) (σ0 3 2) P H C) : QM σ0 (gUr (gUr (gUr (gUp (gUp (gUp σ 133 49 (σ0 133 7)) 133 47 d) 133 48 t) 168 P) 170 C) 169 H) := by
  have q0 : lm (gUp (gUp (gUp σ 133 49 (σ0 133 7)) 133 47 d) 133 48 t) = lm σ0 := (lm_up (by decide)).trans ((lm_up (by decide)).trans ((lm_up (by decide)).trans hq.1))
  have q1 := (lm_ur (f := H) (lm_nfC 169 (by decide))).trans ((lm_ur (f := C) (lm_nfC 170 (by decide))).trans ((lm_ur (f := P) (lm_nfC 168 (by decide))).trans q0))
  have e7 : σ 133 7 = σ0 133 7 := hq.rd (.inr rfl)
  have e6 : σ 133 6 = σ0 133 6 := hq.rd (.inr rfl)
  have e14 : σ 133 14 = σ0 133 14 := hq.rd (.inr rfl)
  have eA := AR_lm q1 d t
  refine ⟨q1, ?_, ?_, fun _ x a b => ⟨fun f c g => ?_, fun c => ?_⟩⟩
  · show σ 133 7 = 1 + σ 133 6 + σ 133 14
    rw [e7, e6, e14]; exact hI.mod.1
  · show σ0 133 7 ≤ σ 133 7
    omega
  · show P (60 * x + f) = AR (gUr (gUr (gUr (gUp (gUp (gUp σ 133 49 (σ0 133 7)) 133 47 d) 133 48 t) 168 P) 170 C) 169 H) d t x f ∧ C (60 * x + f) = if ctl (AR (gUr (gUr (gUr (gUp (gUp (gUp σ 133 49 (σ0 133 7)) 133 47 d) 133 48 t) 168 P) 170 C) 169 H) d t) x f = true then 1 else 0
    rw [eA]
    exact hW.1 x f a b c g
  · show H x = HD (AR (gUr (gUr (gUr (gUp (gUp (gUp σ 133 49 (σ0 133 7)) 133 47 d) 133 48 t) 168 P) 170 C) 169 H) d t) x
    rw [eA]
    have c2 : x < σ 133 6 := c
    rw [e6, hI.f6] at c2
    exact hW.2 x a c2
theorem work_hitW {σ0 σ : gH} (hI : IW σ0) (hq : QM σ0 σ) (h : σ 133 49 = σ0 133 7) : WK (AR σ0 (σ 133 47) (σ 133 48)) (σ0 3 2) (σ 168) (σ 169) (σ 170) := by
  have e7 : σ 133 7 = σ0 133 7 := hq.rd (.inr rfl)
  have e6 : σ 133 6 = σ0 133 6 := hq.rd (.inr rfl)
  have k := hq.2.2.2 (by omega)
  rw [AR_lm hq.1] at k
  refine ⟨fun x f a b c d => (k x a b).1 f c d, fun x a b => (k x a (by have := hI.f.hp; omega)).2 (by rw [e6, hI.f6]; exact b)⟩
theorem own_spanW {σ : gH} (hI : IW σ) {r : Int} (h0 : 0 ≤ r) (h1 : r < σ 15 6) : σ 20 r = -1 ∨ isDy (σ 20 r) := ((hI.f.own.2.2.2 r h0 h1).2.2.2.2.2.2.2.2.2.2.2.1.2).imp id (fun q => q.1)
theorem apS_inW {σ : gH} (hI : IW σ) {d t x f i : Int} (h0 : 0 ≤ i) (h1 : i ≤ σ 15 6) : 0 ≤ sumI (apT σ d t x f) i.toNat ∧ sumI (apT σ d t x f) i.toNat ≤ 10000 * i := by
  constructor
  · exact sumI_nonneg fun j a b => (apT_inW hI a (by omega)).1
  · have h2 : sumI (apT σ d t x f) i.toNat ≤ sumI (fun _ => 10000) i.toNat := sumI_le fun j a b => (apT_inW hI a (by omega)).2
    rw [sumI_const] at h2
    omega
set_option maxHeartbeats 4000000 in
theorem q_workW {σ0 σ : gH} (hI : IW σ0) (hq : QM σ0 σ) (d t : Int) : Mt mX12_work 2 [gR 133, gI d, gI t] σ (fun v σ' => v = gX 1 ∧ QM σ0 σ' ∧ KW σ σ' ∧ WK (AR σ0 d t) (σ0 3 2) (σ' 168) (σ' 169) (σ' 170)) := by
  refine Mt.walk (ls := [gR 133, gI d, gI t, gX 1]) pn_X12 rfl (fun _ _ h => by cases h.1) (Nat.le_of_ble_eq_true rfl) rfl ?_
  have hp := hI.f.hp
  have hp0 := hI.f.party.2.1
  have hn := hI.f.own.2.2.1
  have hn0 := hI.f.own.2.1
  have e6 : σ 133 6 = σ0 3 2 := (hq.rd (.inr rfl)).trans hI.f6
  have hn6 : 0 ≤ σ 133 6 ∧ σ 133 6 ≤ 60 := by omega
  have hout6 : ∀ g f, σ 133 6 ≤ g ∨ σ 133 6 ≤ f → AR σ0 d t g f = 0 := fun g f h => AR_outW hI (by omega)
  have hj_28 : Wp mX12_work 2 (fun v σ' => v = gX 1 ∧ QM σ0 σ' ∧ KW σ σ' ∧ WK (AR σ0 d t) (σ0 3 2) (σ' 168) (σ' 169) (σ' 170)) σ 28 [gR 133, gI d, gI t, gX 1] [] := by
    refine w_aload_n (pc' := 29) (i := 0) (by rfl) (by rfl) dX12_work_28 rfl ?_
    refine w_aload_n (pc' := 30) (i := 0) (by rfl) (by rfl) dX12_work_29 rfl ?_
    refine v_getI (pc' := 33) (ji := 7) rfl fg_X12_20 kd_133 dX12_work_30 rfl ?_
    rw [(hq).rd (k := 133) (i := 7) (.inr rfl)]
    refine v_putI (pc' := 36) (ji := 49) rfl fp_X12_322 kd_133 sf_X12_49 dX12_work_33 rfl ?_
    refine w_aload_n (pc' := 37) (i := 0) (by rfl) (by rfl) dX12_work_36 rfl ?_
    refine w_iload_n (pc' := 38) (i := 1) (by rfl) (by rfl) dX12_work_37 rfl ?_
    refine v_putI (pc' := 41) (ji := 47) rfl fp_X12_127 kd_133 sf_X12_47 dX12_work_38 rfl ?_
    refine w_aload_n (pc' := 42) (i := 0) (by rfl) (by rfl) dX12_work_41 rfl ?_
    refine w_iload_n (pc' := 43) (i := 2) (by rfl) (by rfl) dX12_work_42 rfl ?_
    refine v_putI (pc' := 46) (ji := 48) rfl fp_X12_130 kd_133 sf_X12_48 dX12_work_43 rfl ?_
    refine w_iconst (pc' := 47) (by decide) dX12_work_46 rfl ?_
    refine w_istore_n (pc' := 48) (i := 3) (ls' := [gR 133, gI d, gI t, gI 0]) (by rfl) (by decide) (by rfl) dX12_work_47 rfl ?_
    have hl_48 : ∀ (mm : Nat) (k : Int) (P C : Int → Int), (3600 - k).toNat = mm → (0 ≤ k) → (k ≤ 3600) → (∀ i, 0 ≤ i → i < k → P i = 0 ∧ C i = 0) → Wp mX12_work 2 (fun v σ' => v = gX 1 ∧ QM σ0 σ' ∧ KW σ σ' ∧ WK (AR σ0 d t) (σ0 3 2) (σ' 168) (σ' 169) (σ' 170)) (gUr (gUr (gUp (gUp (gUp σ 133 49 (σ0 133 7)) 133 47 d) 133 48 t) 168 P) 170 C) 48 [gR 133, gI d, gI t, gI k] [] := by
      intro m_48
      induction m_48 using Nat.strongRecOn with
      | _ m_48 ih_48 =>
        intro k P C hmeas_48 h0 h1 hz0
        refine w_iload_n (pc' := 49) (i := 3) (by rfl) (by rfl) dX12_work_48 rfl ?_
        refine w_sipush (pc' := 52) (by decide) (by decide) dX12_work_49 rfl ?_
        refine w_icmp_ge (pc' := 55) (t := 75) dX12_work_52 rfl rfl (fun c_52 => ?_) (fun c_52 => ?_)
        · skip
          refine w_iconst (pc' := 76) (by decide) dX12_work_75 rfl ?_
          refine w_istore_n (pc' := 77) (i := 3) (ls' := [gR 133, gI d, gI t, gI 0]) (by rfl) (by decide) (by rfl) dX12_work_76 rfl ?_
          have hl_77 : ∀ (mm : Nat) (j : Int) (R : Int → Int), (σ0 15 6 - j).toNat = mm → (0 ≤ j) → (j ≤ σ0 15 6) → (∀ x f, 0 ≤ x → x < 60 → 0 ≤ f → f < 60 → R (60 * x + f) = sumI (apT σ0 d t x f) j.toNat) → Wp mX12_work 2 (fun v σ' => v = gX 1 ∧ QM σ0 σ' ∧ KW σ σ' ∧ WK (AR σ0 d t) (σ0 3 2) (σ' 168) (σ' 169) (σ' 170)) (gUr (gUr (gUp (gUp (gUp σ 133 49 (σ0 133 7)) 133 47 d) 133 48 t) 168 R) 170 C) 77 [gR 133, gI d, gI t, gI j] [] := by
            intro m_77
            induction m_77 using Nat.strongRecOn with
            | _ m_77 ih_77 =>
              intro j R hmeas_77 hj0 hj1 hR
              have hr := fun h : j < σ0 15 6 => own_rowW hI hj0 h
              have hs := fun h : j < σ0 15 6 => own_spanW hI hj0 h
              have hb : j < σ0 15 6 → 0 ≤ R (60 * (σ0 16 j) + (σ0 17 j)) ∧ R (60 * (σ0 16 j) + (σ0 17 j)) ≤ 2000000 := fun h => by
                have r := hr h
                rw [hR _ _ r.1.1 (by omega) r.2.1.1 (by omega)]
                have := apS_inW hI (d := d) (t := t) (x := σ0 16 j) (f := σ0 17 j) hj0 (by omega)
                omega
              refine w_iload_n (pc' := 78) (i := 3) (by rfl) (by rfl) dX12_work_77 rfl ?_
              refine w_aload_n (pc' := 79) (i := 0) (by rfl) (by rfl) dX12_work_78 rfl ?_
              refine v_getI (pc' := 82) (ji := 14) rfl fg_X12_283 kd_133 dX12_work_79 rfl ?_
              show Wp _ _ _ _ _ _ [gI (σ 133 14), gI j]
              rw [(hq).rd (k := 133) (i := 14) (.inr rfl)]
              rw [hI.f14]
              refine w_icmp_ge (pc' := 85) (t := 150) dX12_work_82 rfl rfl (fun c_82 => ?_) (fun c_82 => ?_)
              · skip
                refine w_iconst (pc' := 151) (by decide) dX12_work_150 rfl ?_
                refine w_istore_n (pc' := 152) (i := 3) (ls' := [gR 133, gI d, gI t, gI 0]) (by rfl) (by decide) (by rfl) dX12_work_151 rfl ?_
                have hP2 : ∀ x f, 0 ≤ x → x < 60 → 0 ≤ f → f < 60 → R (60 * x + f) = AR σ0 d t x f := fun x f a b c e => by
                  rw [hR x f a b c e, show j = σ0 15 6 by omega]
                  rfl
                have hl_152 : ∀ (mm : Nat) (y : Int) (D : Int → Int), (σ0 3 2 - y).toNat = mm → (0 ≤ y) → (y ≤ σ0 3 2) → (∀ x f, y ≤ x → x < 60 → 0 ≤ f → f < 60 → D (60 * x + f) = 0) → (∀ x f, 0 ≤ x → x < y → 0 ≤ f → f < 60 → D (60 * x + f) = if ctl (AR σ0 d t) x f = true then 1 else 0) → Wp mX12_work 2 (fun v σ' => v = gX 1 ∧ QM σ0 σ' ∧ KW σ σ' ∧ WK (AR σ0 d t) (σ0 3 2) (σ' 168) (σ' 169) (σ' 170)) (gUr (gUr (gUp (gUp (gUp σ 133 49 (σ0 133 7)) 133 47 d) 133 48 t) 168 R) 170 D) 152 [gR 133, gI d, gI t, gI y] [] := by
                  intro m_152
                  induction m_152 using Nat.strongRecOn with
                  | _ m_152 ih_152 =>
                    intro y D hmeas_152 hy0 hy1 hz hd
                    refine w_iload_n (pc' := 153) (i := 3) (by rfl) (by rfl) dX12_work_152 rfl ?_
                    refine w_aload_n (pc' := 154) (i := 0) (by rfl) (by rfl) dX12_work_153 rfl ?_
                    refine v_getI (pc' := 157) (ji := 6) rfl fg_X12_273 kd_133 dX12_work_154 rfl ?_
                    show Wp _ _ _ _ _ _ [gI (σ 133 6), gI y]
                    rw [(hq).rd (k := 133) (i := 6) (.inr rfl)]
                    rw [hI.f6]
                    refine w_icmp_ge (pc' := 160) (t := 171) dX12_work_157 rfl rfl (fun c_157 => ?_) (fun c_157 => ?_)
                    · skip
                      refine w_iconst (pc' := 172) (by decide) dX12_work_171 rfl ?_
                      refine w_istore_n (pc' := 173) (i := 3) (ls' := [gR 133, gI d, gI t, gI 0]) (by rfl) (by decide) (by rfl) dX12_work_172 rfl ?_
                      have hC2 : ∀ x f, 0 ≤ x → x < 60 → 0 ≤ f → f < 60 → D (60 * x + f) = if ctl (AR σ0 d t) x f = true then 1 else 0 := fun x f a b c e => by
                        by_cases l : x < y
                        · exact hd x f a l c e
                        · rw [hz x f (by omega) b c e, if_neg (fun k => Ctl_out hout6 (.inl (by omega)) (ctl_iff.mp k))]
                      have hl_173 : ∀ (mm : Nat) (z : Int) (H : Int → Int), (σ0 3 2 - z).toNat = mm → (0 ≤ z) → (z ≤ σ0 3 2) → (∀ x, 0 ≤ x → x < z → H x = HD (AR σ0 d t) x) → Wp mX12_work 2 (fun v σ' => v = gX 1 ∧ QM σ0 σ' ∧ KW σ σ' ∧ WK (AR σ0 d t) (σ0 3 2) (σ' 168) (σ' 169) (σ' 170)) (gUr (gUr (gUr (gUp (gUp (gUp σ 133 49 (σ0 133 7)) 133 47 d) 133 48 t) 168 R) 170 D) 169 H) 173 [gR 133, gI d, gI t, gI z] [] := by
                        intro m_173
                        induction m_173 using Nat.strongRecOn with
                        | _ m_173 ih_173 =>
                          intro z H hmeas_173 hz1 hz2 hH
                          refine w_iload_n (pc' := 174) (i := 3) (by rfl) (by rfl) dX12_work_173 rfl ?_
                          refine w_aload_n (pc' := 175) (i := 0) (by rfl) (by rfl) dX12_work_174 rfl ?_
                          refine v_getI (pc' := 178) (ji := 6) rfl fg_X12_273 kd_133 dX12_work_175 rfl ?_
                          show Wp _ _ _ _ _ _ [gI (σ 133 6), gI z]
                          rw [(hq).rd (k := 133) (i := 6) (.inr rfl)]
                          rw [hI.f6]
                          refine w_icmp_ge (pc' := 181) (t := 198) dX12_work_178 rfl rfl (fun c_178 => ?_) (fun c_178 => ?_)
                          · skip
                            refine w_return rfl dX12_work_198 ?_
                            have hW : WK (AR σ0 d t) (σ0 3 2) R H D := ⟨fun x f a b c e => ⟨hP2 x f a b c e, hC2 x f a b c e⟩, fun x a b => hH x a (by omega)⟩
                            exact ⟨rfl, work_endW hI hq hW, ((((((KW.refl.up (by decide)).up (by decide)).up (by decide)).ur (fun _ => rfl)).ur (fun _ => rfl)).ur (fun _ => rfl)), hW⟩
                          · skip
                            refine w_aload_n (pc' := 182) (i := 0) (by rfl) (by rfl) dX12_work_181 rfl ?_
                            refine w_getS (pc' := 185) (q := 169) fg_X12_121 kd_133 sf_X12_45 gr_133_45 dX12_work_182 rfl ?_
                            refine w_iload_n (pc' := 186) (i := 3) (by rfl) (by rfl) dX12_work_185 rfl ?_
                            refine w_aload_n (pc' := 187) (i := 0) (by rfl) (by rfl) dX12_work_186 rfl ?_
                            refine w_iload_n (pc' := 188) (i := 3) (by rfl) (by rfl) dX12_work_187 rfl ?_
                            refine v_callVE (pc' := 191) (st' := [gI (HD (AR σ0 d t) z), gI z, gR 169]) (d' := 1) (av := [gI z]) mi_mX12_headOf lk_X12_328 rfl ci_X12 kd_133 rfl (Nat.le_of_ble_eq_true rfl) (Nat.le_of_ble_eq_true rfl) dX12_work_188 rfl rfl (q_headOf (σ := gUr (gUr (gUr (gUp (gUp (gUp σ 133 49 (σ0 133 7)) 133 47 d) 133 48 t) 168 R) 170 D) 169 H) (A := AR σ0 d t) (fun x f a b c e => hP2 x f a b c e) (fun c f => AR_inW hI d t c f) hn6 hout6 (fun x f a b c e => hC2 x f a b c e) z ⟨by omega, by omega⟩) ?_
                            refine w_iast (pc' := 192) kd_169 (by omega) (by omega) dX12_work_191 rfl ?_
                            refine Wp.heq (σ' := gUr (gUr (gUr (gUp (gUp (gUp σ 133 49 (σ0 133 7)) 133 47 d) 133 48 t) 168 R) 170 D) 169 (updI H z (HD (AR σ0 d t) z))) gUp_row ?_
                            refine v_iinc (pc' := 195) (x := z) (ls' := [gR 133, gI d, gI t, gI (z + 1)]) (by omega) (by decide) (by rfl) (by rfl) dX12_work_192 rfl ?_
                            refine w_goto (pc' := 173) dX12_work_195 rfl ?_
                            exact ih_173 _ (by omega) (z + 1) (updI H z (HD (AR σ0 d t) z)) rfl (by omega) (by omega) (by intro x a b; by_cases k : x = z; (rw [k, updI_eq]); rw [updI_ne k]; exact hH x a (by omega))
                      refine Wp.heq (σ' := gUr (gUr (gUr (gUp (gUp (gUp σ 133 49 (σ0 133 7)) 133 47 d) 133 48 t) 168 R) 170 D) 169 ((gUr (gUr (gUp (gUp (gUp σ 133 49 (σ0 133 7)) 133 47 d) 133 48 t) 168 R) 170 D) 169)) gUr_id.symm ?_
                      exact hl_173 _ 0 ((gUr (gUr (gUp (gUp (gUp σ 133 49 (σ0 133 7)) 133 47 d) 133 48 t) 168 R) 170 D) 169) rfl (by omega) (by omega) (by intro x a b; omega)
                    · skip
                      refine w_aload_n (pc' := 161) (i := 0) (by rfl) (by rfl) dX12_work_160 rfl ?_
                      refine w_iload_n (pc' := 162) (i := 3) (by rfl) (by rfl) dX12_work_161 rfl ?_
                      refine w_callV (pc' := 165) (d' := 1) (av := [gI y]) mi_mX12_spread lk_X12_325 rfl ci_X12 kd_133 rfl (Nat.le_of_ble_eq_true rfl) (Nat.le_of_ble_eq_true rfl) dX12_work_162 rfl (q_spread (σ := gUr (gUr (gUp (gUp (gUp σ 133 49 (σ0 133 7)) 133 47 d) 133 48 t) 168 R) 170 D) (A := AR σ0 d t) (fun x f a b c e => hP2 x f a b c e) (fun c f => AR_inW hI d t c f) hn6 hout6 y (by constructor; omega; show y < σ 133 6; omega) (fun f a b => hz y f (Int.le_refl _) (by omega) a b)) (fun v_162 σ_162 q_162 => ?_)
                      obtain ⟨rfl, c162, rfl, hr162, hc162⟩ := q_162
                      refine Wp.heq (σ' := gUr (gUr (gUp (gUp (gUp σ 133 49 (σ0 133 7)) 133 47 d) 133 48 t) 168 R) 170 c162) gUr_same ?_
                      show Wp _ _ _ _ _ _ []
                      refine v_iinc (pc' := 168) (x := y) (ls' := [gR 133, gI d, gI t, gI (y + 1)]) (by omega) (by decide) (by rfl) (by rfl) dX12_work_165 rfl ?_
                      refine w_goto (pc' := 152) dX12_work_168 rfl ?_
                      exact ih_152 _ (by omega) (y + 1) c162 rfl (by omega) (by omega) (by intro x f a b c e; exact (hr162 _ (by omega)).trans (hz x f (by omega) b c e)) (by intro x f a b c e; by_cases k : x = y; (rw [k]; exact hc162 f c e); exact (hr162 _ (by omega)).trans (hd x f a (by omega) c e))
                exact hl_152 _ 0 C rfl (by omega) (by omega) (by intro x f a b c e; exact (hz0 (60 * x + f) (by omega) (by omega)).2) (by intro x f a b; omega)
              · skip
                refine w_aload_n (pc' := 86) (i := 0) (by rfl) (by rfl) dX12_work_85 rfl ?_
                refine w_getS (pc' := 89) (q := 142) fg_X12_39 kd_133 sf_X12_13 gr_133_13 dX12_work_86 rfl ?_
                refine w_iload_n (pc' := 90) (i := 3) (by rfl) (by rfl) dX12_work_89 rfl ?_
                refine w_iald (pc' := 91) kd_142 (by omega) (by omega) dX12_work_90 rfl ?_
                show Wp _ _ _ _ _ _ [gI (σ 142 j)]
                rw [(hq).rd (k := 142) (i := j) (.inr rfl)]
                rw [hI.e142 (i := j) (by omega) (by omega)]
                refine w_iload_n (pc' := 92) (i := 2) (by rfl) (by rfl) dX12_work_91 rfl ?_
                refine w_icmp_gt (pc' := 95) (t := 144) dX12_work_92 rfl rfl (fun c_92 => ?_) (fun c_92 => ?_)
                · skip
                  refine v_iinc (pc' := 147) (x := j) (ls' := [gR 133, gI d, gI t, gI (j + 1)]) (by omega) (by decide) (by rfl) (by rfl) dX12_work_144 rfl ?_
                  refine w_goto (pc' := 77) dX12_work_147 rfl ?_
                  exact ih_77 _ (by omega) (j + 1) R rfl (by omega) (by omega) (by intro x f a b c e; have r := hr (by omega); rw [sumI_s hj0]; unfold apT liv; first | (rw [if_neg (by omega), Int.add_zero]; exact hR x f a b c e) | (by_cases k : σ0 16 j = x ∧ σ0 17 j = f; (rw [if_pos (by omega), show 60 * x + f = 60 * (σ0 16 j) + (σ0 17 j) by omega, updI_eq, hR _ _ r.1.1 (by omega) r.2.1.1 (by omega), k.1, k.2]; rfl); (rw [if_neg (by omega), Int.add_zero, updI_ne (by omega)]; exact hR x f a b c e)))
                · skip
                  refine w_aload_n (pc' := 96) (i := 0) (by rfl) (by rfl) dX12_work_95 rfl ?_
                  refine w_getS (pc' := 99) (q := 140) fg_X12_33 kd_133 sf_X12_11 gr_133_11 dX12_work_96 rfl ?_
                  refine w_iload_n (pc' := 100) (i := 3) (by rfl) (by rfl) dX12_work_99 rfl ?_
                  refine w_iald (pc' := 101) kd_140 (by omega) (by omega) dX12_work_100 rfl ?_
                  show Wp _ _ _ _ _ _ [gI (σ 140 j)]
                  rw [(hq).rd (k := 140) (i := j) (.inr rfl)]
                  rw [hI.e140 (i := j) (by omega) (by omega)]
                  refine w_aload_n (pc' := 102) (i := 0) (by rfl) (by rfl) dX12_work_101 rfl ?_
                  refine w_getS (pc' := 105) (q := 141) fg_X12_36 kd_133 sf_X12_12 gr_133_12 dX12_work_102 rfl ?_
                  refine w_iload_n (pc' := 106) (i := 3) (by rfl) (by rfl) dX12_work_105 rfl ?_
                  refine w_iald (pc' := 107) kd_141 (by omega) (by omega) dX12_work_106 rfl ?_
                  show Wp _ _ _ _ _ _ [gI (σ 141 j), gI (σ0 19 j)]
                  rw [(hq).rd (k := 141) (i := j) (.inr rfl)]
                  rw [hI.e141 (i := j) (by omega) (by omega)]
                  refine w_iload_n (pc' := 108) (i := 1) (by rfl) (by rfl) dX12_work_107 rfl ?_
                  refine v_callSE (pc' := 111) (st' := [gI (gb (σ0 19 j ≤ d ∧ (σ0 20 j = -1 ∨ d < σ0 20 j)))]) (d' := 0) (av := [gI (σ0 19 j), gI (ev (σ0 20 j)), gI d]) ms_mX12_isOn st_mX12_isOn lk_X12_286 rfl rfl (Nat.le_of_ble_eq_true rfl) (Nat.le_of_ble_eq_true rfl) dX12_work_108 rfl rfl (mo_isOnE (gUr (gUr (gUp (gUp (gUp σ 133 49 (σ0 133 7)) 133 47 d) 133 48 t) 168 R) 170 C) (σ0 19 j) (σ0 20 j) d (by exact hs (by omega))) ?_
                  refine v_if_eqB (pc' := 114) (t := 144) dX12_work_111 rfl rfl (fun c_111 => ?_) (fun c_111 => ?_)
                  · skip
                    refine v_iinc (pc' := 147) (x := j) (ls' := [gR 133, gI d, gI t, gI (j + 1)]) (by omega) (by decide) (by rfl) (by rfl) dX12_work_144 rfl ?_
                    refine w_goto (pc' := 77) dX12_work_147 rfl ?_
                    exact ih_77 _ (by omega) (j + 1) R rfl (by omega) (by omega) (by intro x f a b c e; have r := hr (by omega); rw [sumI_s hj0]; unfold apT liv; first | (rw [if_neg (by omega), Int.add_zero]; exact hR x f a b c e) | (by_cases k : σ0 16 j = x ∧ σ0 17 j = f; (rw [if_pos (by omega), show 60 * x + f = 60 * (σ0 16 j) + (σ0 17 j) by omega, updI_eq, hR _ _ r.1.1 (by omega) r.2.1.1 (by omega), k.1, k.2]; rfl); (rw [if_neg (by omega), Int.add_zero, updI_ne (by omega)]; exact hR x f a b c e)))
                  · skip
                    refine w_aload_n (pc' := 115) (i := 0) (by rfl) (by rfl) dX12_work_114 rfl ?_
                    refine w_getS (pc' := 118) (q := 168) fg_X12_118 kd_133 sf_X12_44 gr_133_44 dX12_work_115 rfl ?_
                    refine w_bipush (pc' := 120) (by decide) (by decide) dX12_work_118 rfl ?_
                    refine w_aload_n (pc' := 121) (i := 0) (by rfl) (by rfl) dX12_work_120 rfl ?_
                    refine w_getS (pc' := 124) (q := 137) fg_X12_24 kd_133 sf_X12_8 gr_133_8 dX12_work_121 rfl ?_
                    refine w_iload_n (pc' := 125) (i := 3) (by rfl) (by rfl) dX12_work_124 rfl ?_
                    refine w_iald (pc' := 126) kd_137 (by omega) (by omega) dX12_work_125 rfl ?_
                    show Wp _ _ _ _ _ _ [gI (σ 137 j), gI 60, gR 168]
                    rw [(hq).rd (k := 137) (i := j) (.inr rfl)]
                    rw [hI.e137 (i := j) (by omega) (by omega)]
                    refine v_imul (pc' := 127) (by have := hr (by omega); omega) dX12_work_126 rfl ?_
                    refine w_aload_n (pc' := 128) (i := 0) (by rfl) (by rfl) dX12_work_127 rfl ?_
                    refine w_getS (pc' := 131) (q := 138) fg_X12_27 kd_133 sf_X12_9 gr_133_9 dX12_work_128 rfl ?_
                    refine w_iload_n (pc' := 132) (i := 3) (by rfl) (by rfl) dX12_work_131 rfl ?_
                    refine w_iald (pc' := 133) kd_138 (by omega) (by omega) dX12_work_132 rfl ?_
                    show Wp _ _ _ _ _ _ [gI (σ 138 j), gI (60 * (σ0 16 j)), gR 168]
                    rw [(hq).rd (k := 138) (i := j) (.inr rfl)]
                    rw [hI.e138 (i := j) (by omega) (by omega)]
                    refine v_iadd (pc' := 134) (by have := hr (by omega); omega) dX12_work_133 rfl ?_
                    refine w_dup2 (pc' := 135) dX12_work_134 rfl ?_
                    refine w_iald (pc' := 136) kd_168 (by have := hr (by omega); omega) (by have := hr (by omega); omega) dX12_work_135 rfl ?_
                    show Wp _ _ _ _ _ _ [gI (R ((60 * (σ0 16 j)) + (σ0 17 j))), gI ((60 * (σ0 16 j)) + (σ0 17 j)), gR 168]
                    refine w_aload_n (pc' := 137) (i := 0) (by rfl) (by rfl) dX12_work_136 rfl ?_
                    refine w_getS (pc' := 140) (q := 139) fg_X12_30 kd_133 sf_X12_10 gr_133_10 dX12_work_137 rfl ?_
                    refine w_iload_n (pc' := 141) (i := 3) (by rfl) (by rfl) dX12_work_140 rfl ?_
                    refine w_iald (pc' := 142) kd_139 (by omega) (by omega) dX12_work_141 rfl ?_
                    show Wp _ _ _ _ _ _ [gI (σ 139 j), gI (R ((60 * (σ0 16 j)) + (σ0 17 j))), gI ((60 * (σ0 16 j)) + (σ0 17 j)), gR 168]
                    rw [(hq).rd (k := 139) (i := j) (.inr rfl)]
                    rw [hI.e139 (i := j) (by omega) (by omega)]
                    refine v_iadd (pc' := 143) (by have := hr (by omega); have := hb (by omega); omega) dX12_work_142 rfl ?_
                    refine w_iast (pc' := 144) kd_168 (by have := hr (by omega); omega) (by have := hr (by omega); omega) dX12_work_143 rfl ?_
                    refine Wp.heq (σ' := gUr (gUr (gUp (gUp (gUp σ 133 49 (σ0 133 7)) 133 47 d) 133 48 t) 168 (updI R ((60 * (σ0 16 j)) + (σ0 17 j)) ((R ((60 * (σ0 16 j)) + (σ0 17 j))) + (σ0 18 j)))) 170 C) ((gUp_cr (by decide)).trans (congrArg (fun z => gUr z 170 C) gUp_row)) ?_
                    refine v_iinc (pc' := 147) (x := j) (ls' := [gR 133, gI d, gI t, gI (j + 1)]) (by omega) (by decide) (by rfl) (by rfl) dX12_work_144 rfl ?_
                    refine w_goto (pc' := 77) dX12_work_147 rfl ?_
                    exact ih_77 _ (by omega) (j + 1) (updI R ((60 * (σ0 16 j)) + (σ0 17 j)) ((R ((60 * (σ0 16 j)) + (σ0 17 j))) + (σ0 18 j))) rfl (by omega) (by omega) (by intro x f a b c e; have r := hr (by omega); rw [sumI_s hj0]; unfold apT liv; first | (rw [if_neg (by omega), Int.add_zero]; exact hR x f a b c e) | (by_cases k : σ0 16 j = x ∧ σ0 17 j = f; (rw [if_pos (by omega), show 60 * x + f = 60 * (σ0 16 j) + (σ0 17 j) by omega, updI_eq, hR _ _ r.1.1 (by omega) r.2.1.1 (by omega), k.1, k.2]; rfl); (rw [if_neg (by omega), Int.add_zero, updI_ne (by omega)]; exact hR x f a b c e)))
          exact hl_77 _ 0 P rfl (by omega) (by omega) (by intro x f a b c e; exact (hz0 (60 * x + f) (by omega) (by omega)).1)
        · skip
          refine w_aload_n (pc' := 56) (i := 0) (by rfl) (by rfl) dX12_work_55 rfl ?_
          refine w_getS (pc' := 59) (q := 168) fg_X12_118 kd_133 sf_X12_44 gr_133_44 dX12_work_56 rfl ?_
          refine w_iload_n (pc' := 60) (i := 3) (by rfl) (by rfl) dX12_work_59 rfl ?_
          refine w_iconst (pc' := 61) (by decide) dX12_work_60 rfl ?_
          refine w_iast (pc' := 62) kd_168 (by omega) (by omega) dX12_work_61 rfl ?_
          refine Wp.heq (σ' := gUr (gUr (gUp (gUp (gUp σ 133 49 (σ0 133 7)) 133 47 d) 133 48 t) 168 (updI P k 0)) 170 C) ((gUp_cr (by decide)).trans (congrArg (fun z => gUr z 170 C) gUp_row)) ?_
          refine w_aload_n (pc' := 63) (i := 0) (by rfl) (by rfl) dX12_work_62 rfl ?_
          refine w_getS (pc' := 66) (q := 170) fg_X12_124 kd_133 sf_X12_46 gr_133_46 dX12_work_63 rfl ?_
          refine w_iload_n (pc' := 67) (i := 3) (by rfl) (by rfl) dX12_work_66 rfl ?_
          refine w_iconst (pc' := 68) (by decide) dX12_work_67 rfl ?_
          refine w_zast (pc' := 69) kd_170 (.inl rfl) (by omega) (by omega) dX12_work_68 rfl ?_
          refine Wp.heq (σ' := gUr (gUr (gUp (gUp (gUp σ 133 49 (σ0 133 7)) 133 47 d) 133 48 t) 168 (updI P k 0)) 170 (updI C k 0)) gUp_row ?_
          refine v_iinc (pc' := 72) (x := k) (ls' := [gR 133, gI d, gI t, gI (k + 1)]) (by omega) (by decide) (by rfl) (by rfl) dX12_work_69 rfl ?_
          refine w_goto (pc' := 48) dX12_work_72 rfl ?_
          exact ih_48 _ (by omega) (k + 1) (updI P k 0) (updI C k 0) rfl (by omega) (by omega) (by intro i a b; by_cases e : i = k; rw [e, updI_eq, updI_eq]; exact ⟨rfl, rfl⟩; rw [updI_ne e, updI_ne e]; exact hz0 i a (by omega))
    refine Wp.heq (σ' := gUr (gUr (gUp (gUp (gUp σ 133 49 (σ0 133 7)) 133 47 d) 133 48 t) 168 (σ 168)) 170 (σ 170)) (((rows1 (σ := gUp (gUp (gUp σ 133 49 (σ0 133 7)) 133 47 d) 133 48 t) (a := 168) (b := 170) (f := σ 168) (by decide)).trans (gUr_id (σ := gUp (gUp (gUp σ 133 49 (σ0 133 7)) 133 47 d) 133 48 t) (k := 168))).symm) ?_
    exact hl_48 _ 0 (σ 168) (σ 170) rfl (by omega) (by omega) (by intro i a b; omega)
  refine w_aload_n (pc' := 1) (i := 0) (by rfl) (by rfl) dX12_work_0 rfl ?_
  refine v_getI (pc' := 4) (ji := 49) rfl fg_X12_322 kd_133 dX12_work_1 rfl ?_
  refine w_aload_n (pc' := 5) (i := 0) (by rfl) (by rfl) dX12_work_4 rfl ?_
  refine v_getI (pc' := 8) (ji := 7) rfl fg_X12_20 kd_133 dX12_work_5 rfl ?_
  rw [(hq).rd (k := 133) (i := 7) (.inr rfl)]
  refine w_icmp_ne (pc' := 11) (t := 28) dX12_work_8 rfl rfl (fun c_8 => ?_) (fun c_8 => ?_)
  · skip
    exact hj_28
  · skip
    refine w_aload_n (pc' := 12) (i := 0) (by rfl) (by rfl) dX12_work_11 rfl ?_
    refine v_getI (pc' := 15) (ji := 47) rfl fg_X12_127 kd_133 dX12_work_12 rfl ?_
    refine w_iload_n (pc' := 16) (i := 1) (by rfl) (by rfl) dX12_work_15 rfl ?_
    refine w_icmp_ne (pc' := 19) (t := 28) dX12_work_16 rfl rfl (fun c_16 => ?_) (fun c_16 => ?_)
    · skip
      exact hj_28
    · skip
      refine w_aload_n (pc' := 20) (i := 0) (by rfl) (by rfl) dX12_work_19 rfl ?_
      refine v_getI (pc' := 23) (ji := 48) rfl fg_X12_130 kd_133 dX12_work_20 rfl ?_
      refine w_iload_n (pc' := 24) (i := 2) (by rfl) (by rfl) dX12_work_23 rfl ?_
      refine w_icmp_ne (pc' := 27) (t := 28) dX12_work_24 rfl rfl (fun c_24 => ?_) (fun c_24 => ?_)
      · skip
        exact hj_28
      · skip
        refine w_return rfl dX12_work_27 ?_
        have k := work_hitW hI hq (by omega)
        rw [show σ 133 47 = d by omega, show σ 133 48 = t by omega] at k
        exact ⟨rfl, hq, KW.refl, k⟩
theorem qo_isPartyW {σ0 σ : gH} (hI : IW σ0) (hq : lm σ = lm σ0) (x : Int) : Mt mX12_isParty 0 [gR 133, gI x] σ (rE (gI (gb (0 ≤ x ∧ x < σ0 3 2))) σ) := by
  have e : σ 133 6 = σ0 3 2 := (lm_rd hq (.inr rfl)).trans hI.f6
  have k := mo_isParty σ x
  rw [e] at k
  exact k
theorem qo_arePartiesW {σ0 σ : gH} (hI : IW σ0) (hq : QM σ0 σ) (x f : Int) : Mt mX12_areParties 1 [gR 133, gI x, gI f] σ (rE (gI (gb ((0 ≤ x ∧ x < σ0 3 2) ∧ 0 ≤ f ∧ f < σ0 3 2))) σ) := by
  refine Mt.walk (ls := [gR 133, gI x, gI f]) pn_X12 rfl (fun _ _ h => by cases h.1) (Nat.le_of_ble_eq_true rfl) rfl ?_
  refine w_aload_n (pc' := 1) (i := 0) (by rfl) (by rfl) dX12_areParties_0 rfl ?_
  have hj_21 : Wp mX12_areParties 1 (rE (gI (gb ((0 ≤ x ∧ x < σ0 3 2) ∧ 0 ≤ f ∧ f < σ0 3 2))) σ) σ 21 [gR 133, gI x, gI f] [gI (gb ((0 ≤ x ∧ x < σ0 3 2) ∧ 0 ≤ f ∧ f < σ0 3 2))] := by
    refine v_zretB rfl dX12_areParties_21 ?_
    exact ⟨rfl, rfl⟩
  refine w_iload_n (pc' := 2) (i := 1) (by rfl) (by rfl) dX12_areParties_1 rfl ?_
  refine v_callVE (pc' := 5) (st' := [gI (gb (0 ≤ x ∧ x < σ0 3 2))]) (d' := 0) (av := [gI x]) mi_mX12_isParty lk_X12_276 rfl ci_X12 kd_133 rfl (Nat.le_of_ble_eq_true rfl) (Nat.le_of_ble_eq_true rfl) dX12_areParties_2 rfl rfl (qo_isPartyW hI hq.1 x) ?_
  refine v_if_eqB (pc' := 8) (t := 20) dX12_areParties_5 rfl rfl (fun c_5 => ?_) (fun c_5 => ?_)
  · skip
    refine w_iconst (pc' := 21) (by decide) dX12_areParties_20 rfl ?_
    exact Wp.stI (by first | (exfalso; omega) | exact (gb_f (P := (0 ≤ x ∧ x < σ0 3 2) ∧ 0 ≤ f ∧ f < σ0 3 2) (by omega)).symm) hj_21
  · skip
    refine w_aload_n (pc' := 9) (i := 0) (by rfl) (by rfl) dX12_areParties_8 rfl ?_
    refine w_iload_n (pc' := 10) (i := 2) (by rfl) (by rfl) dX12_areParties_9 rfl ?_
    refine v_callVE (pc' := 13) (st' := [gI (gb (0 ≤ f ∧ f < σ0 3 2))]) (d' := 0) (av := [gI f]) mi_mX12_isParty lk_X12_276 rfl ci_X12 kd_133 rfl (Nat.le_of_ble_eq_true rfl) (Nat.le_of_ble_eq_true rfl) dX12_areParties_10 rfl rfl (qo_isPartyW hI hq.1 f) ?_
    refine v_if_eqB (pc' := 16) (t := 20) dX12_areParties_13 rfl rfl (fun c_13 => ?_) (fun c_13 => ?_)
    · skip
      refine w_iconst (pc' := 21) (by decide) dX12_areParties_20 rfl ?_
      exact Wp.stI (by first | (exfalso; omega) | exact (gb_f (P := (0 ≤ x ∧ x < σ0 3 2) ∧ 0 ≤ f ∧ f < σ0 3 2) (by omega)).symm) hj_21
    · skip
      refine w_iconst (pc' := 17) (by decide) dX12_areParties_16 rfl ?_
      refine w_goto (pc' := 21) dX12_areParties_17 rfl ?_
      exact Wp.stI (by first | (exfalso; omega) | exact (gb_t (P := (0 ≤ x ∧ x < σ0 3 2) ∧ 0 ≤ f ∧ f < σ0 3 2) (by omega)).symm) hj_21
def kpR (R : Int → Int) (m x a b c f : Int) : Int → Int := updI (updI (updI (updI (updI R 0 x) 1 (if m = 2 then f else a)) 2 (if m = 3 then f else b)) 3 (if m = 4 then f else c)) 4 f
theorem kpR_2 {R : Int → Int} {x a b c f : Int} : rowL (kpR R 2 x a b c f) 0 [x, f] := ⟨rfl, rfl, trivial⟩
theorem kpR_3 {R : Int → Int} {x a b c f : Int} : rowL (kpR R 3 x a b c f) 0 [x, a, f] := ⟨rfl, rfl, rfl, trivial⟩
theorem kpR_4 {R : Int → Int} {x a b c f : Int} : rowL (kpR R 4 x a b c f) 0 [x, a, b, f] := ⟨rfl, rfl, rfl, rfl, trivial⟩
theorem kpR_5 {R : Int → Int} {x a b c f : Int} : rowL (kpR R 5 x a b c f) 0 [x, a, b, c, f] := ⟨rfl, rfl, rfl, rfl, rfl, trivial⟩
/-- how the reference holds the best, o0 and R0 as they were -/
def MSt (o0 : Int) (R0 : Int → Int) (b o : Int) (R : Int → Int) (s : Int × List Int) : Prop := b = s.1 ∧ ((s = zcs ∧ o = o0 ∧ R = R0) ∨ (0 < s.1 ∧ o = s.2.length ∧ rowL R 0 s.2))
theorem MSt.ge {o0 b o : Int} {R0 R : Int → Int} {s : Int × List Int} (h : MSt o0 R0 b o R s) : 0 ≤ b := by
  obtain ⟨e, h | h⟩ := h
  · rw [e, h.1]; decide
  · omega
theorem MSt.no {o0 b o p : Int} {R0 R : Int → Int} {s : Int × List Int} {l : List Int} (h : MSt o0 R0 b o R s) (hp : p ≤ b) : MSt o0 R0 b o R (ops s (p, l)) := by
  rw [ops_l (show p ≤ s.1 by have := h.1; omega)]
  exact h
theorem MSt.yes {o0 b o p m : Int} {R0 R K : Int → Int} {s : Int × List Int} {l : List Int} (h : MSt o0 R0 b o R s) (hp : ¬ p ≤ b) (hm : m = l.length) (hK : rowL K 0 l) : MSt o0 R0 p m K (ops s (p, l)) := by
  have hb := h.ge
  rw [ops_r (show s.1 < p by have := h.1; omega)]
  exact ⟨rfl, Or.inr ⟨by show 0 < p; omega, hm, hK⟩⟩
theorem MSt.zero {o0 b o : Int} {R0 R : Int → Int} {s : Int × List Int} {L : List (Int × List Int)} (h : MSt o0 R0 b o R s) (hL : L = []) : MSt o0 R0 b o R (L.foldl ops s) := by
  rw [hL]; exact h
theorem rb1_z {A : Int → Int → Int} {n x f l a : Int} (h : a = f ∨ a = x ∨ A x a = 0) : rb1 A n x f l a = [] := if_pos h
theorem rb1_y {A : Int → Int → Int} {n x f l a : Int} (h : ¬ (a = f ∨ a = x ∨ A x a = 0)) : rb1 A n x f l a = if l = 3 then rk3 A x f a else fmI (rb2 A n x f l a) n.toNat := if_neg h
theorem rb2_z {A : Int → Int → Int} {n x f l a b : Int} (h : b = x ∨ b = f ∨ b = a ∨ A a b = 0) : rb2 A n x f l a b = [] := if_pos h
theorem rb2_y {A : Int → Int → Int} {n x f l a b : Int} (h : ¬ (b = x ∨ b = f ∨ b = a ∨ A a b = 0)) : rb2 A n x f l a b = if l = 4 then rk4 A x f a b else fmI (rk5 A x f a b) n.toNat := if_neg h
theorem rk5_z {A : Int → Int → Int} {x f a b c : Int} (h : c = x ∨ c = f ∨ c = a ∨ c = b ∨ A b c = 0 ∨ A c f = 0) : rk5 A x f a b c = [] := if_pos h
theorem rk5_y {A : Int → Int → Int} {x f a b c : Int} (h : ¬ (c = x ∨ c = f ∨ c = a ∨ c = b ∨ A b c = 0 ∨ A c f = 0)) : rk5 A x f a b c = [(A x a * A a b * A b c * A c f, [x, a, b, c, f])] := if_neg h
/-- the best behind the ways of j lengths -/
def stL (A : Int → Int → Int) (n x f : Int) : Nat → Int × List Int
  | 0 => (rk2 A x f).foldl ops zcs
  | j + 1 => (fmI (rb1 A n x f (j + 3)) n.toNat).foldl ops (stL A n x f j)
theorem stL_s {A : Int → Int → Int} {n x f l : Int} (h : 3 ≤ l) : stL A n x f (l + 1 - 3).toNat = (fmI (rb1 A n x f l) n.toNat).foldl ops (stL A n x f (l - 3).toNat) := by
  rw [show (l + 1 - 3).toNat = (l - 3).toNat + 1 by omega]
  show (fmI (rb1 A n x f (((l - 3).toNat : Int) + 3)) n.toNat).foldl ops (stL A n x f (l - 3).toNat) = _
  rw [show (((l - 3).toNat : Int) + 3) = l by omega]
theorem ms_form {σ : gH} {b : Int} : gUp σ 133 52 b = gUr (gUp (gUp σ 133 52 b) 133 51 (σ 133 51)) 171 (σ 171) := by
  have e : gUp (gUp σ 133 52 b) 133 51 (σ 133 51) = gUp σ 133 52 b := gUp_id (σ := gUp σ 133 52 b) (k := 133) (i := 51)
  rw [e]
  exact (gUr_id (σ := gUp σ 133 52 b) (k := 171)).symm
theorem q_keepN {σ : gH} (p m x a b c f : Int) (hm : 2 ≤ m ∧ m ≤ 5) (hc : p ≤ σ 133 52) : Mt mX12_keep 0 [gR 133, gJ p, gI m, gI x, gI a, gI b, gI c, gI f] σ (rE (gX 1) σ) := by
  refine Mt.walk (ls := [gR 133, gJ p, gX 1, gI m, gI x, gI a, gI b, gI c, gI f]) pn_X12 rfl (fun _ _ h => by cases h.1) (Nat.le_of_ble_eq_true rfl) rfl ?_
  have hg := gCmp_cs p (σ 133 52)
  refine w_lload_n (pc' := 1) (i := 1) (by rfl) (by rfl) dX12_keep_0 rfl ?_
  refine w_aload_n (pc' := 2) (i := 0) (by rfl) (by rfl) dX12_keep_1 rfl ?_
  refine v_getJ (pc' := 5) (ji := 52) rfl fg_X12_357 kd_133 dX12_keep_2 rfl ?_
  refine w_lcmp (pc' := 6) dX12_keep_5 rfl ?_
  refine w_if_gt (pc' := 9) (t := 10) dX12_keep_6 rfl rfl (fun c_6 => ?_) (fun c_6 => ?_)
  · skip
    exfalso; omega
  · skip
    refine w_return rfl dX12_keep_9 ?_
    exact ⟨rfl, rfl⟩
theorem q_keepY {σ : gH} (p m x a b c f : Int) (hm : 2 ≤ m ∧ m ≤ 5) (hc : ¬ p ≤ σ 133 52) : Mt mX12_keep 0 [gR 133, gJ p, gI m, gI x, gI a, gI b, gI c, gI f] σ (rE (gX 1) (gUr (gUp (gUp σ 133 52 p) 133 51 m) 171 (kpR (σ 171) m x a b c f))) := by
  refine Mt.walk (ls := [gR 133, gJ p, gX 1, gI m, gI x, gI a, gI b, gI c, gI f]) pn_X12 rfl (fun _ _ h => by cases h.1) (Nat.le_of_ble_eq_true rfl) rfl ?_
  have hg := gCmp_cs p (σ 133 52)
  refine w_lload_n (pc' := 1) (i := 1) (by rfl) (by rfl) dX12_keep_0 rfl ?_
  refine w_aload_n (pc' := 2) (i := 0) (by rfl) (by rfl) dX12_keep_1 rfl ?_
  refine v_getJ (pc' := 5) (ji := 52) rfl fg_X12_357 kd_133 dX12_keep_2 rfl ?_
  refine w_lcmp (pc' := 6) dX12_keep_5 rfl ?_
  refine w_if_gt (pc' := 9) (t := 10) dX12_keep_6 rfl rfl (fun c_6 => ?_) (fun c_6 => ?_)
  · skip
    refine w_aload_n (pc' := 11) (i := 0) (by rfl) (by rfl) dX12_keep_10 rfl ?_
    refine w_lload_n (pc' := 12) (i := 1) (by rfl) (by rfl) dX12_keep_11 rfl ?_
    refine v_putJ (pc' := 15) (ji := 52) rfl fp_X12_357 kd_133 sf_X12_52 dX12_keep_12 rfl ?_
    refine w_aload_n (pc' := 16) (i := 0) (by rfl) (by rfl) dX12_keep_15 rfl ?_
    refine w_iload_n (pc' := 17) (i := 3) (by rfl) (by rfl) dX12_keep_16 rfl ?_
    refine v_putI (pc' := 20) (ji := 51) rfl fp_X12_361 kd_133 sf_X12_51 dX12_keep_17 rfl ?_
    refine Wp.heq (σ' := gUr (gUp (gUp σ 133 52 p) 133 51 m) 171 (σ 171)) gUr_id.symm ?_
    refine w_aload_n (pc' := 21) (i := 0) (by rfl) (by rfl) dX12_keep_20 rfl ?_
    refine w_getS (pc' := 24) (q := 171) fg_X12_133 kd_133 sf_X12_50 gr_133_50 dX12_keep_21 rfl ?_
    refine w_iconst (pc' := 25) (by decide) dX12_keep_24 rfl ?_
    refine w_iload (pc' := 27) (by rfl) dX12_keep_25 rfl ?_
    refine w_iast (pc' := 28) kd_171 (by omega) (by omega) dX12_keep_27 rfl ?_
    refine Wp.heq (σ' := gUr (gUp (gUp σ 133 52 p) 133 51 m) 171 (updI (σ 171) 0 x)) gUp_row ?_
    refine w_aload_n (pc' := 29) (i := 0) (by rfl) (by rfl) dX12_keep_28 rfl ?_
    refine w_getS (pc' := 32) (q := 171) fg_X12_133 kd_133 sf_X12_50 gr_133_50 dX12_keep_29 rfl ?_
    refine w_iconst (pc' := 33) (by decide) dX12_keep_32 rfl ?_
    have hj_45 : Wp mX12_keep 0 (rE (gX 1) (gUr (gUp (gUp σ 133 52 p) 133 51 m) 171 (kpR (σ 171) m x a b c f))) (gUr (gUp (gUp σ 133 52 p) 133 51 m) 171 (updI (σ 171) 0 x)) 45 [gR 133, gJ p, gX 1, gI m, gI x, gI a, gI b, gI c, gI f] [gI (if m = 2 then f else a), gI 1, gR 171] := by
      refine w_iast (pc' := 46) kd_171 (by omega) (by omega) dX12_keep_45 rfl ?_
      refine Wp.heq (σ' := gUr (gUp (gUp σ 133 52 p) 133 51 m) 171 (updI (updI (σ 171) 0 x) 1 (if m = 2 then f else a))) gUp_row ?_
      refine w_aload_n (pc' := 47) (i := 0) (by rfl) (by rfl) dX12_keep_46 rfl ?_
      refine w_getS (pc' := 50) (q := 171) fg_X12_133 kd_133 sf_X12_50 gr_133_50 dX12_keep_47 rfl ?_
      refine w_iconst (pc' := 51) (by decide) dX12_keep_50 rfl ?_
      have hj_63 : Wp mX12_keep 0 (rE (gX 1) (gUr (gUp (gUp σ 133 52 p) 133 51 m) 171 (kpR (σ 171) m x a b c f))) (gUr (gUp (gUp σ 133 52 p) 133 51 m) 171 (updI (updI (σ 171) 0 x) 1 (if m = 2 then f else a))) 63 [gR 133, gJ p, gX 1, gI m, gI x, gI a, gI b, gI c, gI f] [gI (if m = 3 then f else b), gI 2, gR 171] := by
        refine w_iast (pc' := 64) kd_171 (by omega) (by omega) dX12_keep_63 rfl ?_
        refine Wp.heq (σ' := gUr (gUp (gUp σ 133 52 p) 133 51 m) 171 (updI (updI (updI (σ 171) 0 x) 1 (if m = 2 then f else a)) 2 (if m = 3 then f else b))) gUp_row ?_
        refine w_aload_n (pc' := 65) (i := 0) (by rfl) (by rfl) dX12_keep_64 rfl ?_
        refine w_getS (pc' := 68) (q := 171) fg_X12_133 kd_133 sf_X12_50 gr_133_50 dX12_keep_65 rfl ?_
        refine w_iconst (pc' := 69) (by decide) dX12_keep_68 rfl ?_
        have hj_81 : Wp mX12_keep 0 (rE (gX 1) (gUr (gUp (gUp σ 133 52 p) 133 51 m) 171 (kpR (σ 171) m x a b c f))) (gUr (gUp (gUp σ 133 52 p) 133 51 m) 171 (updI (updI (updI (σ 171) 0 x) 1 (if m = 2 then f else a)) 2 (if m = 3 then f else b))) 81 [gR 133, gJ p, gX 1, gI m, gI x, gI a, gI b, gI c, gI f] [gI (if m = 4 then f else c), gI 3, gR 171] := by
          refine w_iast (pc' := 82) kd_171 (by omega) (by omega) dX12_keep_81 rfl ?_
          refine Wp.heq (σ' := gUr (gUp (gUp σ 133 52 p) 133 51 m) 171 (updI (updI (updI (updI (σ 171) 0 x) 1 (if m = 2 then f else a)) 2 (if m = 3 then f else b)) 3 (if m = 4 then f else c))) gUp_row ?_
          refine w_aload_n (pc' := 83) (i := 0) (by rfl) (by rfl) dX12_keep_82 rfl ?_
          refine w_getS (pc' := 86) (q := 171) fg_X12_133 kd_133 sf_X12_50 gr_133_50 dX12_keep_83 rfl ?_
          refine w_iconst (pc' := 87) (by decide) dX12_keep_86 rfl ?_
          refine w_iload (pc' := 89) (by rfl) dX12_keep_87 rfl ?_
          refine w_iast (pc' := 90) kd_171 (by omega) (by omega) dX12_keep_89 rfl ?_
          refine Wp.heq (σ' := gUr (gUp (gUp σ 133 52 p) 133 51 m) 171 (updI (updI (updI (updI (updI (σ 171) 0 x) 1 (if m = 2 then f else a)) 2 (if m = 3 then f else b)) 3 (if m = 4 then f else c)) 4 f)) gUp_row ?_
          refine w_return rfl dX12_keep_90 ?_
          exact ⟨rfl, rfl⟩
        refine w_iload_n (pc' := 70) (i := 3) (by rfl) (by rfl) dX12_keep_69 rfl ?_
        refine w_iconst (pc' := 71) (by decide) dX12_keep_70 rfl ?_
        refine w_icmp_ne (pc' := 74) (t := 79) dX12_keep_71 rfl rfl (fun c_71 => ?_) (fun c_71 => ?_)
        · skip
          refine w_iload (pc' := 81) (by rfl) dX12_keep_79 rfl ?_
          exact Wp.stI (by first | (exfalso; omega) | (first | exact (if_pos (by omega)).symm | exact (if_neg (by omega)).symm)) hj_81
        · skip
          refine w_iload (pc' := 76) (by rfl) dX12_keep_74 rfl ?_
          refine w_goto (pc' := 81) dX12_keep_76 rfl ?_
          exact Wp.stI (by first | (exfalso; omega) | (first | exact (if_pos (by omega)).symm | exact (if_neg (by omega)).symm)) hj_81
      refine w_iload_n (pc' := 52) (i := 3) (by rfl) (by rfl) dX12_keep_51 rfl ?_
      refine w_iconst (pc' := 53) (by decide) dX12_keep_52 rfl ?_
      refine w_icmp_ne (pc' := 56) (t := 61) dX12_keep_53 rfl rfl (fun c_53 => ?_) (fun c_53 => ?_)
      · skip
        refine w_iload (pc' := 63) (by rfl) dX12_keep_61 rfl ?_
        exact Wp.stI (by first | (exfalso; omega) | (first | exact (if_pos (by omega)).symm | exact (if_neg (by omega)).symm)) hj_63
      · skip
        refine w_iload (pc' := 58) (by rfl) dX12_keep_56 rfl ?_
        refine w_goto (pc' := 63) dX12_keep_58 rfl ?_
        exact Wp.stI (by first | (exfalso; omega) | (first | exact (if_pos (by omega)).symm | exact (if_neg (by omega)).symm)) hj_63
    refine w_iload_n (pc' := 34) (i := 3) (by rfl) (by rfl) dX12_keep_33 rfl ?_
    refine w_iconst (pc' := 35) (by decide) dX12_keep_34 rfl ?_
    refine w_icmp_ne (pc' := 38) (t := 43) dX12_keep_35 rfl rfl (fun c_35 => ?_) (fun c_35 => ?_)
    · skip
      refine w_iload (pc' := 45) (by rfl) dX12_keep_43 rfl ?_
      exact Wp.stI (by first | (exfalso; omega) | (first | exact (if_pos (by omega)).symm | exact (if_neg (by omega)).symm)) hj_45
    · skip
      refine w_iload (pc' := 40) (by rfl) dX12_keep_38 rfl ?_
      refine w_goto (pc' := 45) dX12_keep_40 rfl ?_
      exact Wp.stI (by first | (exfalso; omega) | (first | exact (if_pos (by omega)).symm | exact (if_neg (by omega)).symm)) hj_45
  · skip
    exfalso; omega
set_option maxHeartbeats 8000000 in
theorem m_chain {σ0 : gH} (hI : IW σ0) (x f d t : Int) {bc : Int × List Int} (hbc : BCH (AR σ0 d t) x f = bc) : Mt mX12_chain 30 [gR 133, gI x, gI f, gI d, gI t] σ0 (fun v σ' => v = gI (if ((0 ≤ x ∧ x < σ0 3 2) ∧ 0 ≤ f ∧ f < σ0 3 2) ∧ 0 ≤ d ∧ d ≤ 9999 then (bc.2.length : Int) else -1) ∧ ((¬ ((((0 ≤ x ∧ x < σ0 3 2) ∧ 0 ≤ f ∧ f < σ0 3 2) ∧ 0 ≤ d ∧ d ≤ 9999) ∧ 0 < (bc.2.length : Int)) ∧ QM σ0 σ') ∨ ((((0 ≤ x ∧ x < σ0 3 2) ∧ 0 ≤ f ∧ f < σ0 3 2) ∧ 0 ≤ d ∧ d ≤ 9999) ∧ 0 < (bc.2.length : Int) ∧ ∃ σq b R, QM σ0 σq ∧ σ' = gUr (gUp (gUp σq 133 52 b) 133 51 (bc.2.length : Int)) 171 R ∧ rowL R 0 bc.2))) := by
  refine Mt.walk (ls := [gR 133, gI x, gI f, gI d, gI t, gX 1, gX 1, gX 1, gX 1, gX 1, gX 1, gX 1, gX 1]) pn_X12 rfl (fun _ _ h => by cases h.1) (Nat.le_of_ble_eq_true rfl) rfl ?_
  have hp := hI.f.hp
  have hp0 := hI.f.party.2.1
  have hpA := fun c f => AR_inW hI d t c f
  have hxx := fun y => AR_outW hI (d := d) (t := t) (x := y) (f := y) (by omega)
  refine w_aload_n (pc' := 1) (i := 0) (by rfl) (by rfl) dX12_chain_0 rfl ?_
  refine w_iconst (pc' := 2) (by decide) dX12_chain_1 rfl ?_
  refine v_putI (pc' := 5) (ji := 0) rfl fp_X12_244 kd_133 sf_X12_0 dX12_chain_2 rfl ?_
  refine w_aload_n (pc' := 6) (i := 0) (by rfl) (by rfl) dX12_chain_5 rfl ?_
  refine w_iload_n (pc' := 7) (i := 1) (by rfl) (by rfl) dX12_chain_6 rfl ?_
  refine w_iload_n (pc' := 8) (i := 2) (by rfl) (by rfl) dX12_chain_7 rfl ?_
  refine v_callVE (pc' := 11) (st' := [gI (gb ((0 ≤ x ∧ x < σ0 3 2) ∧ 0 ≤ f ∧ f < σ0 3 2))]) (d' := 1) (av := [gI x, gI f]) mi_mX12_areParties lk_X12_344 rfl ci_X12 kd_133 rfl (Nat.le_of_ble_eq_true rfl) (Nat.le_of_ble_eq_true rfl) dX12_chain_8 rfl rfl (qo_arePartiesW hI (QM.up (k := 133) (i := 0) (v := 0) (QM.reflW hI) (by decide) (fun h => h)) x f) ?_
  refine v_if_eqB (pc' := 14) (t := 21) dX12_chain_11 rfl rfl (fun c_11 => ?_) (fun c_11 => ?_)
  · skip
    refine w_iconst (pc' := 22) (by decide) dX12_chain_21 rfl ?_
    refine v_ireturn rfl dX12_chain_22 ?_
    exact ⟨by rw [if_neg (by omega)], Or.inl ⟨by omega, QM.up (QM.reflW hI) (by decide) (fun h => h)⟩⟩
  · skip
    refine w_iload_n (pc' := 15) (i := 3) (by rfl) (by rfl) dX12_chain_14 rfl ?_
    refine v_callSE (pc' := 18) (st' := [gI (gb (0 ≤ d ∧ d ≤ 9999))]) (d' := 0) (av := [gI d]) ms_mX12_isDay st_mX12_isDay lk_X12_279 rfl rfl (Nat.le_of_ble_eq_true rfl) (Nat.le_of_ble_eq_true rfl) dX12_chain_15 rfl rfl (mo_isDay (gUp σ0 133 0 0) d) ?_
    refine v_if_neB (pc' := 21) (t := 23) dX12_chain_18 rfl rfl (fun c_18 => ?_) (fun c_18 => ?_)
    · skip
      refine w_iload_n (pc' := 24) (i := 1) (by rfl) (by rfl) dX12_chain_23 rfl ?_
      refine w_iload_n (pc' := 25) (i := 2) (by rfl) (by rfl) dX12_chain_24 rfl ?_
      refine w_icmp_ne (pc' := 28) (t := 30) dX12_chain_25 rfl rfl (fun c_25 => ?_) (fun c_25 => ?_)
      · skip
        refine w_aload_n (pc' := 31) (i := 0) (by rfl) (by rfl) dX12_chain_30 rfl ?_
        refine w_iload_n (pc' := 32) (i := 3) (by rfl) (by rfl) dX12_chain_31 rfl ?_
        refine w_iload (pc' := 34) (by rfl) dX12_chain_32 rfl ?_
        refine w_callV (pc' := 37) (d' := 2) (av := [gI d, gI t]) mi_mX12_work lk_X12_349 rfl ci_X12 kd_133 rfl (Nat.le_of_ble_eq_true rfl) (Nat.le_of_ble_eq_true rfl) dX12_chain_34 rfl (q_workW hI (QM.up (k := 133) (i := 0) (v := 0) (QM.reflW hI) (by decide) (fun h => h)) d t) (fun v_34 σ34 q_34 => ?_)
        obtain ⟨rfl, hq_34, hk_34, hw_34⟩ := q_34
        show Wp _ _ _ _ _ _ []
        refine w_aload_n (pc' := 38) (i := 0) (by rfl) (by rfl) dX12_chain_37 rfl ?_
        refine w_lconst (n := 0) (pc' := 39) (by decide) (by decide) dX12_chain_38 rfl ?_
        refine v_putJ (pc' := 42) (ji := 52) rfl fp_X12_357 kd_133 sf_X12_52 dX12_chain_39 rfl ?_
        have hj_63 : ∀ (b3 o3 : Int) (R3 : Int → Int), MSt (σ34 133 51) (σ34 171) b3 o3 R3 ((stL (AR σ0 d t) (σ0 3 2) x f 0)) → Wp mX12_chain 30 (fun v σ' => v = gI (if ((0 ≤ x ∧ x < σ0 3 2) ∧ 0 ≤ f ∧ f < σ0 3 2) ∧ 0 ≤ d ∧ d ≤ 9999 then (bc.2.length : Int) else -1) ∧ ((¬ ((((0 ≤ x ∧ x < σ0 3 2) ∧ 0 ≤ f ∧ f < σ0 3 2) ∧ 0 ≤ d ∧ d ≤ 9999) ∧ 0 < (bc.2.length : Int)) ∧ QM σ0 σ') ∨ ((((0 ≤ x ∧ x < σ0 3 2) ∧ 0 ≤ f ∧ f < σ0 3 2) ∧ 0 ≤ d ∧ d ≤ 9999) ∧ 0 < (bc.2.length : Int) ∧ ∃ σq b R, QM σ0 σq ∧ σ' = gUr (gUp (gUp σq 133 52 b) 133 51 (bc.2.length : Int)) 171 R ∧ rowL R 0 bc.2))) (gUr (gUp (gUp σ34 133 52 b3) 133 51 o3) 171 R3) 63 [gR 133, gI x, gI f, gI d, gI t, gX 1, gX 1, gX 1, gX 1, gX 1, gX 1, gX 1, gX 1] [] := by
          intro b3 o3 R3 h3
          refine w_iconst (pc' := 64) (by decide) dX12_chain_63 rfl ?_
          refine w_istore (pc' := 66) (ls' := [gR 133, gI x, gI f, gI d, gI t, gI 3, gX 1, gX 1, gX 1, gX 1, gX 1, gX 1, gX 1]) (by decide) (by rfl) dX12_chain_64 rfl ?_
          have hl_66 : ∀ (mm : Nat) (l b4 o4 : Int) (R4 : Int → Int), (6 - l).toNat = mm → (3 ≤ l) → (l ≤ 6) → (MSt (σ34 133 51) (σ34 171) b4 o4 R4 (stL (AR σ0 d t) (σ0 3 2) x f (l - 3).toNat)) → Wp mX12_chain 30 (fun v σ' => v = gI (if ((0 ≤ x ∧ x < σ0 3 2) ∧ 0 ≤ f ∧ f < σ0 3 2) ∧ 0 ≤ d ∧ d ≤ 9999 then (bc.2.length : Int) else -1) ∧ ((¬ ((((0 ≤ x ∧ x < σ0 3 2) ∧ 0 ≤ f ∧ f < σ0 3 2) ∧ 0 ≤ d ∧ d ≤ 9999) ∧ 0 < (bc.2.length : Int)) ∧ QM σ0 σ') ∨ ((((0 ≤ x ∧ x < σ0 3 2) ∧ 0 ≤ f ∧ f < σ0 3 2) ∧ 0 ≤ d ∧ d ≤ 9999) ∧ 0 < (bc.2.length : Int) ∧ ∃ σq b R, QM σ0 σq ∧ σ' = gUr (gUp (gUp σq 133 52 b) 133 51 (bc.2.length : Int)) 171 R ∧ rowL R 0 bc.2))) (gUr (gUp (gUp σ34 133 52 b4) 133 51 o4) 171 R4) 66 [gR 133, gI x, gI f, gI d, gI t, gI l, gX 1, gX 1, gX 1, gX 1, gX 1, gX 1, gX 1] [] := by
            intro m_66
            induction m_66 using Nat.strongRecOn with
            | _ m_66 ih_66 =>
              intro l b4 o4 R4 hmeas_66 l0 l1 hM4
              refine w_iload (pc' := 68) (by rfl) dX12_chain_66 rfl ?_
              refine w_iconst (pc' := 69) (by decide) dX12_chain_68 rfl ?_
              refine w_icmp_gt (pc' := 72) (t := 324) dX12_chain_69 rfl rfl (fun c_69 => ?_) (fun c_69 => ?_)
              · skip
                refine w_aload_n (pc' := 325) (i := 0) (by rfl) (by rfl) dX12_chain_324 rfl ?_
                refine v_getJ (pc' := 328) (ji := 52) rfl fg_X12_357 kd_133 dX12_chain_325 rfl ?_
                show Wp _ _ _ _ _ _ [gJ b4]
                refine w_lconst (n := 0) (pc' := 329) (by decide) (by decide) dX12_chain_328 rfl ?_
                refine w_lcmp (pc' := 330) dX12_chain_329 rfl ?_
                refine w_if_ne (pc' := 333) (t := 337) dX12_chain_330 rfl rfl (fun c_330 => ?_) (fun c_330 => ?_)
                · skip
                  refine w_aload_n (pc' := 338) (i := 0) (by rfl) (by rfl) dX12_chain_337 rfl ?_
                  refine v_getI (pc' := 341) (ji := 51) rfl fg_X12_361 kd_133 dX12_chain_338 rfl ?_
                  show Wp _ _ _ _ _ _ [gI o4]
                  refine v_ireturn rfl dX12_chain_341 ?_
                  have hb := BCH_r (A := (AR σ0 d t)) (n := σ0 3 2) (x := x) (f := f) (fun y z => (hpA y z).1) (fun g f h => AR_outW hI (by omega)) (by omega) (by omega) (by omega) (by omega) (by omega)
                  have hs6 : stL (AR σ0 d t) (σ0 3 2) x f (l - 3).toNat = bc := by
                    rw [show (l - 3).toNat = 3 by omega, ← hbc, hb]
                    rfl
                  rw [hs6] at hM4
                  have hok := BCH_ok (A := (AR σ0 d t)) (x := x) (f := f) (fun y z => (hpA y z).1)
                  rw [hbc] at hok
                  have hg4 := gCmp_0 (x := b4)
                  rcases hM4.2 with e | e
                  · exfalso
                    have e2 := hM4.1
                    rw [e.1] at e2
                    have e3 : b4 = 0 := e2
                    omega
                  · have el : 0 < (bc.2.length : Int) := by
                      rcases hok with k | k
                      · rw [k] at e
                        exact absurd e.1 (by decide)
                      · omega
                    exact ⟨by rw [if_pos (by omega), e.2.1], Or.inr ⟨by omega, el, σ34, b4, R4, hq_34, by rw [e.2.1], e.2.2⟩⟩
                · skip
                  refine w_iconst (pc' := 334) (by decide) dX12_chain_333 rfl ?_
                  refine w_goto (pc' := 341) dX12_chain_334 rfl ?_
                  refine v_ireturn rfl dX12_chain_341 ?_
                  have hb := BCH_r (A := (AR σ0 d t)) (n := σ0 3 2) (x := x) (f := f) (fun y z => (hpA y z).1) (fun g f h => AR_outW hI (by omega)) (by omega) (by omega) (by omega) (by omega) (by omega)
                  have hs6 : stL (AR σ0 d t) (σ0 3 2) x f (l - 3).toNat = bc := by
                    rw [show (l - 3).toNat = 3 by omega, ← hbc, hb]
                    rfl
                  rw [hs6] at hM4
                  have hok := BCH_ok (A := (AR σ0 d t)) (x := x) (f := f) (fun y z => (hpA y z).1)
                  rw [hbc] at hok
                  have hg4 := gCmp_0 (x := b4)
                  have e0 : bc = zcs := by
                    rcases hM4.2 with e | e
                    · exact e.1
                    · have := hM4.1
                      omega
                  have el : (bc.2.length : Int) = 0 := by rw [e0]; rfl
                  rcases hM4.2 with e | e
                  · refine ⟨by rw [if_pos (by omega), el], Or.inl ⟨by omega, ?_⟩⟩
                    rw [e.2.1, e.2.2, ← ms_form]
                    exact (QM.up (k := 133) (i := 52) (v := b4) hq_34 (by decide) (fun h => h))
                  · have := hM4.1
                    omega
              · skip
                refine w_iconst (pc' := 73) (by decide) dX12_chain_72 rfl ?_
                refine w_istore (pc' := 75) (ls' := [gR 133, gI x, gI f, gI d, gI t, gI l, gI 0, gX 1, gX 1, gX 1, gX 1, gX 1, gX 1]) (by decide) (by rfl) dX12_chain_73 rfl ?_
                have hl_75 : ∀ (mm : Nat) (a b5 o5 : Int) (R5 : Int → Int), (σ0 3 2 - a).toNat = mm → (0 ≤ a) → (a ≤ σ0 3 2) → (MSt (σ34 133 51) (σ34 171) b5 o5 R5 ((fmI (rb1 (AR σ0 d t) (σ0 3 2) x f l) a.toNat).foldl ops (stL (AR σ0 d t) (σ0 3 2) x f (l - 3).toNat))) → Wp mX12_chain 30 (fun v σ' => v = gI (if ((0 ≤ x ∧ x < σ0 3 2) ∧ 0 ≤ f ∧ f < σ0 3 2) ∧ 0 ≤ d ∧ d ≤ 9999 then (bc.2.length : Int) else -1) ∧ ((¬ ((((0 ≤ x ∧ x < σ0 3 2) ∧ 0 ≤ f ∧ f < σ0 3 2) ∧ 0 ≤ d ∧ d ≤ 9999) ∧ 0 < (bc.2.length : Int)) ∧ QM σ0 σ') ∨ ((((0 ≤ x ∧ x < σ0 3 2) ∧ 0 ≤ f ∧ f < σ0 3 2) ∧ 0 ≤ d ∧ d ≤ 9999) ∧ 0 < (bc.2.length : Int) ∧ ∃ σq b R, QM σ0 σq ∧ σ' = gUr (gUp (gUp σq 133 52 b) 133 51 (bc.2.length : Int)) 171 R ∧ rowL R 0 bc.2))) (gUr (gUp (gUp σ34 133 52 b5) 133 51 o5) 171 R5) 75 [gR 133, gI x, gI f, gI d, gI t, gI l, gI a, gX 1, gX 1, gX 1, gX 1, gX 1, gX 1] [] := by
                  intro m_75
                  induction m_75 using Nat.strongRecOn with
                  | _ m_75 ih_75 =>
                    intro a b5 o5 R5 hmeas_75 a0 a1 hM5
                    have pxa := hpA x a
                    have paf := hpA a f
                    have e1 : fmI (rb1 (AR σ0 d t) (σ0 3 2) x f l) (a + 1).toNat = fmI (rb1 (AR σ0 d t) (σ0 3 2) x f l) a.toNat ++ rb1 (AR σ0 d t) (σ0 3 2) x f l a := fmI_s a0
                    have m1 := mulb (M := 10000) pxa.1 pxa.2 paf.1 paf.2
                    have g1 : ∀ _ : Unit, (gCmp ((AR σ0 d t) x a) 0 = 0 ↔ (AR σ0 d t) x a = 0) := fun _ => gCmp_0
                    have hax : ∀ _ : Unit, (AR σ0 d t) x a ≠ 0 → a ≠ x := fun _ h e => h (by rw [e]; exact hxx x)
                    refine w_iload (pc' := 77) (by rfl) dX12_chain_75 rfl ?_
                    refine w_aload_n (pc' := 78) (i := 0) (by rfl) (by rfl) dX12_chain_77 rfl ?_
                    refine v_getI (pc' := 81) (ji := 6) rfl fg_X12_273 kd_133 dX12_chain_78 rfl ?_
                    show Wp _ _ _ _ _ _ [gI (σ34 133 6), gI a]
                    rw [(hq_34).rd (k := 133) (i := 6) (.inr rfl)]
                    rw [hI.f6]
                    refine w_icmp_ge (pc' := 84) (t := 318) dX12_chain_81 rfl rfl (fun c_81 => ?_) (fun c_81 => ?_)
                    · skip
                      refine v_iinc (pc' := 321) (x := l) (ls' := [gR 133, gI x, gI f, gI d, gI t, gI (l + 1), gI a, gX 1, gX 1, gX 1, gX 1, gX 1, gX 1]) (by omega) (by decide) (by rfl) (by rfl) dX12_chain_318 rfl ?_
                      refine w_goto (pc' := 66) dX12_chain_321 rfl ?_
                      refine Wp.lose (ls' := [gR 133, gI x, gI f, gI d, gI t, gI (l + 1), gX 1, gX 1, gX 1, gX 1, gX 1, gX 1, gX 1]) ⟨.inr rfl, ⟨.inr rfl, ⟨.inr rfl, ⟨.inr rfl, ⟨.inr rfl, ⟨.inr rfl, ⟨.inl rfl, ⟨.inr rfl, ⟨.inr rfl, ⟨.inr rfl, ⟨.inr rfl, ⟨.inr rfl, ⟨.inr rfl, trivial⟩⟩⟩⟩⟩⟩⟩⟩⟩⟩⟩⟩⟩ ?_
                      exact ih_66 _ (by omega) (l + 1) b5 o5 R5 rfl (by omega) (by omega) (by rw [stL_s l0]; rw [show a = σ0 3 2 by omega] at hM5; exact hM5)
                    · skip
                      refine w_aload_n (pc' := 85) (i := 0) (by rfl) (by rfl) dX12_chain_84 rfl ?_
                      refine w_iload_n (pc' := 86) (i := 1) (by rfl) (by rfl) dX12_chain_85 rfl ?_
                      refine w_iload (pc' := 88) (by rfl) dX12_chain_86 rfl ?_
                      refine v_callVE (pc' := 91) (st' := [gI (AR σ0 d t x a)]) (d' := 0) (av := [gI x, gI a]) mi_mX12_at lk_X12_332 rfl ci_X12 kd_133 rfl (Nat.le_of_ble_eq_true rfl) (Nat.le_of_ble_eq_true rfl) dX12_chain_88 rfl rfl (q_atA (σ := gUr (gUp (gUp σ34 133 52 b5) 133 51 o5) 171 R5) (A := AR σ0 d t) (fun x f a b c e => (hw_34.1 x f a b c e).1) x a ⟨by omega, by omega⟩ ⟨by omega, by omega⟩) ?_
                      refine w_i2l (pc' := 92) dX12_chain_91 rfl ?_
                      refine w_lstore (pc' := 94) (ls' := [gR 133, gI x, gI f, gI d, gI t, gI l, gI a, gJ (AR σ0 d t x a), gX 1, gX 1, gX 1, gX 1, gX 1]) (by decide) (by rfl) dX12_chain_92 rfl ?_
                      refine w_iload (pc' := 96) (by rfl) dX12_chain_94 rfl ?_
                      refine w_iload_n (pc' := 97) (i := 2) (by rfl) (by rfl) dX12_chain_96 rfl ?_
                      refine w_icmp_eq (pc' := 100) (t := 312) dX12_chain_97 rfl rfl (fun c_97 => ?_) (fun c_97 => ?_)
                      · skip
                        refine v_iinc (pc' := 315) (x := a) (ls' := [gR 133, gI x, gI f, gI d, gI t, gI l, gI (a + 1), gJ (AR σ0 d t x a), gX 1, gX 1, gX 1, gX 1, gX 1]) (by omega) (by decide) (by rfl) (by rfl) dX12_chain_312 rfl ?_
                        refine w_goto (pc' := 75) dX12_chain_315 rfl ?_
                        refine Wp.lose (ls' := [gR 133, gI x, gI f, gI d, gI t, gI l, gI (a + 1), gX 1, gX 1, gX 1, gX 1, gX 1, gX 1]) ⟨.inr rfl, ⟨.inr rfl, ⟨.inr rfl, ⟨.inr rfl, ⟨.inr rfl, ⟨.inr rfl, ⟨.inr rfl, ⟨.inl rfl, ⟨.inr rfl, ⟨.inr rfl, ⟨.inr rfl, ⟨.inr rfl, ⟨.inr rfl, trivial⟩⟩⟩⟩⟩⟩⟩⟩⟩⟩⟩⟩⟩ ?_
                        exact ih_75 _ (by omega) (a + 1) b5 o5 R5 rfl (by omega) (by omega) (by rw [e1, List.foldl_append]; first | exact hM5.zero (rb1_z (by first | omega | (have := g1 (); omega))) | (rw [rb1_y (by have := g1 (); have := hax (); omega)]; first | (rw [show b = σ0 3 2 by omega] at hM6; exact hM6) | (rw [if_pos (show l = 3 by omega)]; rw [if_pos (show l = 3 by omega)] at hM6; exact hM6)))
                      · skip
                        refine w_lload (pc' := 102) (by rfl) dX12_chain_100 rfl ?_
                        refine w_lconst (n := 0) (pc' := 103) (by decide) (by decide) dX12_chain_102 rfl ?_
                        refine w_lcmp (pc' := 104) dX12_chain_103 rfl ?_
                        refine w_if_ne (pc' := 107) (t := 110) dX12_chain_104 rfl rfl (fun c_104 => ?_) (fun c_104 => ?_)
                        · skip
                          have hj_142 : ∀ (b3 o3 : Int) (R3 : Int → Int), MSt (σ34 133 51) (σ34 171) b3 o3 R3 ((if l = 3 then rk3 (AR σ0 d t) x f a else fmI (rb2 (AR σ0 d t) (σ0 3 2) x f l a) (0 : Int).toNat).foldl ops ((fmI (rb1 (AR σ0 d t) (σ0 3 2) x f l) a.toNat).foldl ops (stL (AR σ0 d t) (σ0 3 2) x f (l - 3).toNat))) → Wp mX12_chain 30 (fun v σ' => v = gI (if ((0 ≤ x ∧ x < σ0 3 2) ∧ 0 ≤ f ∧ f < σ0 3 2) ∧ 0 ≤ d ∧ d ≤ 9999 then (bc.2.length : Int) else -1) ∧ ((¬ ((((0 ≤ x ∧ x < σ0 3 2) ∧ 0 ≤ f ∧ f < σ0 3 2) ∧ 0 ≤ d ∧ d ≤ 9999) ∧ 0 < (bc.2.length : Int)) ∧ QM σ0 σ') ∨ ((((0 ≤ x ∧ x < σ0 3 2) ∧ 0 ≤ f ∧ f < σ0 3 2) ∧ 0 ≤ d ∧ d ≤ 9999) ∧ 0 < (bc.2.length : Int) ∧ ∃ σq b R, QM σ0 σq ∧ σ' = gUr (gUp (gUp σq 133 52 b) 133 51 (bc.2.length : Int)) 171 R ∧ rowL R 0 bc.2))) (gUr (gUp (gUp σ34 133 52 b3) 133 51 o3) 171 R3) 142 [gR 133, gI x, gI f, gI d, gI t, gI l, gI a, gJ (AR σ0 d t x a), gX 1, gX 1, gX 1, gX 1, gX 1] [] := by
                            intro b3 o3 R3 h3
                            refine w_iconst (pc' := 143) (by decide) dX12_chain_142 rfl ?_
                            refine w_istore (pc' := 145) (ls' := [gR 133, gI x, gI f, gI d, gI t, gI l, gI a, gJ (AR σ0 d t x a), gX 1, gI 0, gX 1, gX 1, gX 1]) (by decide) (by rfl) dX12_chain_143 rfl ?_
                            have hl_145 : ∀ (mm : Nat) (b b6 o6 : Int) (R6 : Int → Int), (σ0 3 2 - b).toNat = mm → (0 ≤ b) → (b ≤ σ0 3 2) → (MSt (σ34 133 51) (σ34 171) b6 o6 R6 ((if l = 3 then rk3 (AR σ0 d t) x f a else fmI (rb2 (AR σ0 d t) (σ0 3 2) x f l a) b.toNat).foldl ops ((fmI (rb1 (AR σ0 d t) (σ0 3 2) x f l) a.toNat).foldl ops (stL (AR σ0 d t) (σ0 3 2) x f (l - 3).toNat)))) → Wp mX12_chain 30 (fun v σ' => v = gI (if ((0 ≤ x ∧ x < σ0 3 2) ∧ 0 ≤ f ∧ f < σ0 3 2) ∧ 0 ≤ d ∧ d ≤ 9999 then (bc.2.length : Int) else -1) ∧ ((¬ ((((0 ≤ x ∧ x < σ0 3 2) ∧ 0 ≤ f ∧ f < σ0 3 2) ∧ 0 ≤ d ∧ d ≤ 9999) ∧ 0 < (bc.2.length : Int)) ∧ QM σ0 σ') ∨ ((((0 ≤ x ∧ x < σ0 3 2) ∧ 0 ≤ f ∧ f < σ0 3 2) ∧ 0 ≤ d ∧ d ≤ 9999) ∧ 0 < (bc.2.length : Int) ∧ ∃ σq b R, QM σ0 σq ∧ σ' = gUr (gUp (gUp σq 133 52 b) 133 51 (bc.2.length : Int)) 171 R ∧ rowL R 0 bc.2))) (gUr (gUp (gUp σ34 133 52 b6) 133 51 o6) 171 R6) 145 [gR 133, gI x, gI f, gI d, gI t, gI l, gI a, gJ (AR σ0 d t x a), gX 1, gI b, gX 1, gX 1, gX 1] [] := by
                              intro m_145
                              induction m_145 using Nat.strongRecOn with
                              | _ m_145 ih_145 =>
                                intro b b6 o6 R6 hmeas_145 b0 b1 hM6
                                have pab := hpA a b
                                have pbf := hpA b f
                                have e2 : fmI (rb2 (AR σ0 d t) (σ0 3 2) x f l a) (b + 1).toNat = fmI (rb2 (AR σ0 d t) (σ0 3 2) x f l a) b.toNat ++ rb2 (AR σ0 d t) (σ0 3 2) x f l a b := fmI_s b0
                                have m2 := mulb (M := 10000) pxa.1 pxa.2 pab.1 pab.2
                                have m3 := mulb (M := 10000 * 10000) m2.1 m2.2 pbf.1 pbf.2
                                have g2 : ∀ _ : Unit, (gCmp ((AR σ0 d t) x a * (AR σ0 d t) a b) 0 = 0 ↔ (AR σ0 d t) x a * (AR σ0 d t) a b = 0) ∧ ((AR σ0 d t) x a * (AR σ0 d t) a b = 0 ↔ ((AR σ0 d t) x a = 0 ∨ (AR σ0 d t) a b = 0)) := fun _ => ⟨gCmp_0, Int.mul_eq_zero⟩
                                have hba : ∀ _ : Unit, (AR σ0 d t) a b ≠ 0 → b ≠ a := fun _ h e => h (by rw [e]; exact hxx a)
                                refine w_iload (pc' := 147) (by rfl) dX12_chain_145 rfl ?_
                                refine w_aload_n (pc' := 148) (i := 0) (by rfl) (by rfl) dX12_chain_147 rfl ?_
                                refine v_getI (pc' := 151) (ji := 6) rfl fg_X12_273 kd_133 dX12_chain_148 rfl ?_
                                show Wp _ _ _ _ _ _ [gI (σ34 133 6), gI b]
                                rw [(hq_34).rd (k := 133) (i := 6) (.inr rfl)]
                                rw [hI.f6]
                                refine w_icmp_ge (pc' := 154) (t := 312) dX12_chain_151 rfl rfl (fun c_151 => ?_) (fun c_151 => ?_)
                                · skip
                                  refine v_iinc (pc' := 315) (x := a) (ls' := [gR 133, gI x, gI f, gI d, gI t, gI l, gI (a + 1), gJ (AR σ0 d t x a), gX 1, gI b, gX 1, gX 1, gX 1]) (by omega) (by decide) (by rfl) (by rfl) dX12_chain_312 rfl ?_
                                  refine w_goto (pc' := 75) dX12_chain_315 rfl ?_
                                  refine Wp.lose (ls' := [gR 133, gI x, gI f, gI d, gI t, gI l, gI (a + 1), gX 1, gX 1, gX 1, gX 1, gX 1, gX 1]) ⟨.inr rfl, ⟨.inr rfl, ⟨.inr rfl, ⟨.inr rfl, ⟨.inr rfl, ⟨.inr rfl, ⟨.inr rfl, ⟨.inl rfl, ⟨.inr rfl, ⟨.inl rfl, ⟨.inr rfl, ⟨.inr rfl, ⟨.inr rfl, trivial⟩⟩⟩⟩⟩⟩⟩⟩⟩⟩⟩⟩⟩ ?_
                                  exact ih_75 _ (by omega) (a + 1) b6 o6 R6 rfl (by omega) (by omega) (by rw [e1, List.foldl_append]; first | exact hM5.zero (rb1_z (by first | omega | (have := g1 (); omega))) | (rw [rb1_y (by have := g1 (); have := hax (); omega)]; first | (rw [show b = σ0 3 2 by omega] at hM6; exact hM6) | (rw [if_pos (show l = 3 by omega)]; rw [if_pos (show l = 3 by omega)] at hM6; exact hM6)))
                                · skip
                                  refine w_iload (pc' := 156) (by rfl) dX12_chain_154 rfl ?_
                                  refine w_iconst (pc' := 157) (by decide) dX12_chain_156 rfl ?_
                                  refine w_icmp_le (pc' := 160) (t := 312) dX12_chain_157 rfl rfl (fun c_157 => ?_) (fun c_157 => ?_)
                                  · skip
                                    refine v_iinc (pc' := 315) (x := a) (ls' := [gR 133, gI x, gI f, gI d, gI t, gI l, gI (a + 1), gJ (AR σ0 d t x a), gX 1, gI b, gX 1, gX 1, gX 1]) (by omega) (by decide) (by rfl) (by rfl) dX12_chain_312 rfl ?_
                                    refine w_goto (pc' := 75) dX12_chain_315 rfl ?_
                                    refine Wp.lose (ls' := [gR 133, gI x, gI f, gI d, gI t, gI l, gI (a + 1), gX 1, gX 1, gX 1, gX 1, gX 1, gX 1]) ⟨.inr rfl, ⟨.inr rfl, ⟨.inr rfl, ⟨.inr rfl, ⟨.inr rfl, ⟨.inr rfl, ⟨.inr rfl, ⟨.inl rfl, ⟨.inr rfl, ⟨.inl rfl, ⟨.inr rfl, ⟨.inr rfl, ⟨.inr rfl, trivial⟩⟩⟩⟩⟩⟩⟩⟩⟩⟩⟩⟩⟩ ?_
                                    exact ih_75 _ (by omega) (a + 1) b6 o6 R6 rfl (by omega) (by omega) (by rw [e1, List.foldl_append]; first | exact hM5.zero (rb1_z (by first | omega | (have := g1 (); omega))) | (rw [rb1_y (by have := g1 (); have := hax (); omega)]; first | (rw [show b = σ0 3 2 by omega] at hM6; exact hM6) | (rw [if_pos (show l = 3 by omega)]; rw [if_pos (show l = 3 by omega)] at hM6; exact hM6)))
                                  · skip
                                    refine w_lload (pc' := 162) (by rfl) dX12_chain_160 rfl ?_
                                    refine w_aload_n (pc' := 163) (i := 0) (by rfl) (by rfl) dX12_chain_162 rfl ?_
                                    refine w_iload (pc' := 165) (by rfl) dX12_chain_163 rfl ?_
                                    refine w_iload (pc' := 167) (by rfl) dX12_chain_165 rfl ?_
                                    refine v_callVE (pc' := 170) (st' := [gI (AR σ0 d t a b), gJ (AR σ0 d t x a)]) (d' := 0) (av := [gI a, gI b]) mi_mX12_at lk_X12_332 rfl ci_X12 kd_133 rfl (Nat.le_of_ble_eq_true rfl) (Nat.le_of_ble_eq_true rfl) dX12_chain_167 rfl rfl (q_atA (σ := gUr (gUp (gUp σ34 133 52 b6) 133 51 o6) 171 R6) (A := AR σ0 d t) (fun x f a b c e => (hw_34.1 x f a b c e).1) a b ⟨by omega, by omega⟩ ⟨by omega, by omega⟩) ?_
                                    refine w_i2l (pc' := 171) dX12_chain_170 rfl ?_
                                    refine v_lmul (pc' := 172) (by omega) dX12_chain_171 rfl ?_
                                    refine w_lstore (pc' := 174) (ls' := [gR 133, gI x, gI f, gI d, gI t, gI l, gI a, gJ (AR σ0 d t x a), gX 1, gI b, gJ ((AR σ0 d t x a) * (AR σ0 d t a b)), gX 1, gX 1]) (by decide) (by rfl) dX12_chain_172 rfl ?_
                                    refine w_iload (pc' := 176) (by rfl) dX12_chain_174 rfl ?_
                                    refine w_iload_n (pc' := 177) (i := 1) (by rfl) (by rfl) dX12_chain_176 rfl ?_
                                    refine w_icmp_eq (pc' := 180) (t := 306) dX12_chain_177 rfl rfl (fun c_177 => ?_) (fun c_177 => ?_)
                                    · skip
                                      refine v_iinc (pc' := 309) (x := b) (ls' := [gR 133, gI x, gI f, gI d, gI t, gI l, gI a, gJ (AR σ0 d t x a), gX 1, gI (b + 1), gJ ((AR σ0 d t x a) * (AR σ0 d t a b)), gX 1, gX 1]) (by omega) (by decide) (by rfl) (by rfl) dX12_chain_306 rfl ?_
                                      refine w_goto (pc' := 145) dX12_chain_309 rfl ?_
                                      refine Wp.lose (ls' := [gR 133, gI x, gI f, gI d, gI t, gI l, gI a, gJ (AR σ0 d t x a), gX 1, gI (b + 1), gX 1, gX 1, gX 1]) ⟨.inr rfl, ⟨.inr rfl, ⟨.inr rfl, ⟨.inr rfl, ⟨.inr rfl, ⟨.inr rfl, ⟨.inr rfl, ⟨.inr rfl, ⟨.inr rfl, ⟨.inr rfl, ⟨.inl rfl, ⟨.inr rfl, ⟨.inr rfl, trivial⟩⟩⟩⟩⟩⟩⟩⟩⟩⟩⟩⟩⟩ ?_
                                      exact ih_145 _ (by omega) (b + 1) b6 o6 R6 rfl (by omega) (by omega) (by rw [if_neg (show ¬ l = 3 by omega)]; rw [if_neg (show ¬ l = 3 by omega)] at hM6; rw [e2, List.foldl_append]; first | exact hM6.zero (rb2_z (by first | omega | (have := g1 (); have := g2 (); omega))) | (rw [rb2_y (by have := g2 (); have := hba (); omega)]; rw [if_neg (show ¬ l = 3 by omega)] at hM7; first | (rw [show c = σ0 3 2 by omega] at hM7; exact hM7) | (rw [if_pos (show l = 4 by omega)]; rw [if_pos (show l = 4 by omega)] at hM7; exact hM7)))
                                    · skip
                                      refine w_iload (pc' := 182) (by rfl) dX12_chain_180 rfl ?_
                                      refine w_iload_n (pc' := 183) (i := 2) (by rfl) (by rfl) dX12_chain_182 rfl ?_
                                      refine w_icmp_eq (pc' := 186) (t := 306) dX12_chain_183 rfl rfl (fun c_183 => ?_) (fun c_183 => ?_)
                                      · skip
                                        refine v_iinc (pc' := 309) (x := b) (ls' := [gR 133, gI x, gI f, gI d, gI t, gI l, gI a, gJ (AR σ0 d t x a), gX 1, gI (b + 1), gJ ((AR σ0 d t x a) * (AR σ0 d t a b)), gX 1, gX 1]) (by omega) (by decide) (by rfl) (by rfl) dX12_chain_306 rfl ?_
                                        refine w_goto (pc' := 145) dX12_chain_309 rfl ?_
                                        refine Wp.lose (ls' := [gR 133, gI x, gI f, gI d, gI t, gI l, gI a, gJ (AR σ0 d t x a), gX 1, gI (b + 1), gX 1, gX 1, gX 1]) ⟨.inr rfl, ⟨.inr rfl, ⟨.inr rfl, ⟨.inr rfl, ⟨.inr rfl, ⟨.inr rfl, ⟨.inr rfl, ⟨.inr rfl, ⟨.inr rfl, ⟨.inr rfl, ⟨.inl rfl, ⟨.inr rfl, ⟨.inr rfl, trivial⟩⟩⟩⟩⟩⟩⟩⟩⟩⟩⟩⟩⟩ ?_
                                        exact ih_145 _ (by omega) (b + 1) b6 o6 R6 rfl (by omega) (by omega) (by rw [if_neg (show ¬ l = 3 by omega)]; rw [if_neg (show ¬ l = 3 by omega)] at hM6; rw [e2, List.foldl_append]; first | exact hM6.zero (rb2_z (by first | omega | (have := g1 (); have := g2 (); omega))) | (rw [rb2_y (by have := g2 (); have := hba (); omega)]; rw [if_neg (show ¬ l = 3 by omega)] at hM7; first | (rw [show c = σ0 3 2 by omega] at hM7; exact hM7) | (rw [if_pos (show l = 4 by omega)]; rw [if_pos (show l = 4 by omega)] at hM7; exact hM7)))
                                      · skip
                                        refine w_lload (pc' := 188) (by rfl) dX12_chain_186 rfl ?_
                                        refine w_lconst (n := 0) (pc' := 189) (by decide) (by decide) dX12_chain_188 rfl ?_
                                        refine w_lcmp (pc' := 190) dX12_chain_189 rfl ?_
                                        refine w_if_ne (pc' := 193) (t := 196) dX12_chain_190 rfl rfl (fun c_190 => ?_) (fun c_190 => ?_)
                                        · skip
                                          have hj_229 : ∀ (b3 o3 : Int) (R3 : Int → Int), MSt (σ34 133 51) (σ34 171) b3 o3 R3 ((if l = 4 then rk4 (AR σ0 d t) x f a b else fmI (rk5 (AR σ0 d t) x f a b) (0 : Int).toNat).foldl ops ((if l = 3 then rk3 (AR σ0 d t) x f a else fmI (rb2 (AR σ0 d t) (σ0 3 2) x f l a) b.toNat).foldl ops ((fmI (rb1 (AR σ0 d t) (σ0 3 2) x f l) a.toNat).foldl ops (stL (AR σ0 d t) (σ0 3 2) x f (l - 3).toNat)))) → Wp mX12_chain 30 (fun v σ' => v = gI (if ((0 ≤ x ∧ x < σ0 3 2) ∧ 0 ≤ f ∧ f < σ0 3 2) ∧ 0 ≤ d ∧ d ≤ 9999 then (bc.2.length : Int) else -1) ∧ ((¬ ((((0 ≤ x ∧ x < σ0 3 2) ∧ 0 ≤ f ∧ f < σ0 3 2) ∧ 0 ≤ d ∧ d ≤ 9999) ∧ 0 < (bc.2.length : Int)) ∧ QM σ0 σ') ∨ ((((0 ≤ x ∧ x < σ0 3 2) ∧ 0 ≤ f ∧ f < σ0 3 2) ∧ 0 ≤ d ∧ d ≤ 9999) ∧ 0 < (bc.2.length : Int) ∧ ∃ σq b R, QM σ0 σq ∧ σ' = gUr (gUp (gUp σq 133 52 b) 133 51 (bc.2.length : Int)) 171 R ∧ rowL R 0 bc.2))) (gUr (gUp (gUp σ34 133 52 b3) 133 51 o3) 171 R3) 229 [gR 133, gI x, gI f, gI d, gI t, gI l, gI a, gJ (AR σ0 d t x a), gX 1, gI b, gJ ((AR σ0 d t x a) * (AR σ0 d t a b)), gX 1, gX 1] [] := by
                                            intro b3 o3 R3 h3
                                            refine w_iconst (pc' := 230) (by decide) dX12_chain_229 rfl ?_
                                            refine w_istore (pc' := 232) (ls' := [gR 133, gI x, gI f, gI d, gI t, gI l, gI a, gJ (AR σ0 d t x a), gX 1, gI b, gJ ((AR σ0 d t x a) * (AR σ0 d t a b)), gX 1, gI 0]) (by decide) (by rfl) dX12_chain_230 rfl ?_
                                            have hl_232 : ∀ (mm : Nat) (c b7 o7 : Int) (R7 : Int → Int), (σ0 3 2 - c).toNat = mm → (0 ≤ c) → (c ≤ σ0 3 2) → (MSt (σ34 133 51) (σ34 171) b7 o7 R7 ((if l = 4 then rk4 (AR σ0 d t) x f a b else fmI (rk5 (AR σ0 d t) x f a b) c.toNat).foldl ops ((if l = 3 then rk3 (AR σ0 d t) x f a else fmI (rb2 (AR σ0 d t) (σ0 3 2) x f l a) b.toNat).foldl ops ((fmI (rb1 (AR σ0 d t) (σ0 3 2) x f l) a.toNat).foldl ops (stL (AR σ0 d t) (σ0 3 2) x f (l - 3).toNat))))) → Wp mX12_chain 30 (fun v σ' => v = gI (if ((0 ≤ x ∧ x < σ0 3 2) ∧ 0 ≤ f ∧ f < σ0 3 2) ∧ 0 ≤ d ∧ d ≤ 9999 then (bc.2.length : Int) else -1) ∧ ((¬ ((((0 ≤ x ∧ x < σ0 3 2) ∧ 0 ≤ f ∧ f < σ0 3 2) ∧ 0 ≤ d ∧ d ≤ 9999) ∧ 0 < (bc.2.length : Int)) ∧ QM σ0 σ') ∨ ((((0 ≤ x ∧ x < σ0 3 2) ∧ 0 ≤ f ∧ f < σ0 3 2) ∧ 0 ≤ d ∧ d ≤ 9999) ∧ 0 < (bc.2.length : Int) ∧ ∃ σq b R, QM σ0 σq ∧ σ' = gUr (gUp (gUp σq 133 52 b) 133 51 (bc.2.length : Int)) 171 R ∧ rowL R 0 bc.2))) (gUr (gUp (gUp σ34 133 52 b7) 133 51 o7) 171 R7) 232 [gR 133, gI x, gI f, gI d, gI t, gI l, gI a, gJ (AR σ0 d t x a), gX 1, gI b, gJ ((AR σ0 d t x a) * (AR σ0 d t a b)), gX 1, gI c] [] := by
                                              intro m_232
                                              induction m_232 using Nat.strongRecOn with
                                              | _ m_232 ih_232 =>
                                                intro c b7 o7 R7 hmeas_232 cc0 cc1 hM7
                                                have pbc := hpA b c
                                                have pcf := hpA c f
                                                have e3 : fmI (rk5 (AR σ0 d t) x f a b) (c + 1).toNat = fmI (rk5 (AR σ0 d t) x f a b) c.toNat ++ rk5 (AR σ0 d t) x f a b c := fmI_s cc0
                                                have m4 := mulb (M := 10000 * 10000) m2.1 m2.2 pbc.1 pbc.2
                                                have m5 := mulb (M := 10000 * 10000 * 10000) m4.1 m4.2 pcf.1 pcf.2
                                                have abb := hxx b
                                                refine w_iload (pc' := 234) (by rfl) dX12_chain_232 rfl ?_
                                                refine w_aload_n (pc' := 235) (i := 0) (by rfl) (by rfl) dX12_chain_234 rfl ?_
                                                refine v_getI (pc' := 238) (ji := 6) rfl fg_X12_273 kd_133 dX12_chain_235 rfl ?_
                                                show Wp _ _ _ _ _ _ [gI (σ34 133 6), gI c]
                                                rw [(hq_34).rd (k := 133) (i := 6) (.inr rfl)]
                                                rw [hI.f6]
                                                refine w_icmp_ge (pc' := 241) (t := 306) dX12_chain_238 rfl rfl (fun c_238 => ?_) (fun c_238 => ?_)
                                                · skip
                                                  refine v_iinc (pc' := 309) (x := b) (ls' := [gR 133, gI x, gI f, gI d, gI t, gI l, gI a, gJ (AR σ0 d t x a), gX 1, gI (b + 1), gJ ((AR σ0 d t x a) * (AR σ0 d t a b)), gX 1, gI c]) (by omega) (by decide) (by rfl) (by rfl) dX12_chain_306 rfl ?_
                                                  refine w_goto (pc' := 145) dX12_chain_309 rfl ?_
                                                  refine Wp.lose (ls' := [gR 133, gI x, gI f, gI d, gI t, gI l, gI a, gJ (AR σ0 d t x a), gX 1, gI (b + 1), gX 1, gX 1, gX 1]) ⟨.inr rfl, ⟨.inr rfl, ⟨.inr rfl, ⟨.inr rfl, ⟨.inr rfl, ⟨.inr rfl, ⟨.inr rfl, ⟨.inr rfl, ⟨.inr rfl, ⟨.inr rfl, ⟨.inl rfl, ⟨.inr rfl, ⟨.inl rfl, trivial⟩⟩⟩⟩⟩⟩⟩⟩⟩⟩⟩⟩⟩ ?_
                                                  exact ih_145 _ (by omega) (b + 1) b7 o7 R7 rfl (by omega) (by omega) (by rw [if_neg (show ¬ l = 3 by omega)]; rw [if_neg (show ¬ l = 3 by omega)] at hM6; rw [e2, List.foldl_append]; first | exact hM6.zero (rb2_z (by first | omega | (have := g1 (); have := g2 (); omega))) | (rw [rb2_y (by have := g2 (); have := hba (); omega)]; rw [if_neg (show ¬ l = 3 by omega)] at hM7; first | (rw [show c = σ0 3 2 by omega] at hM7; exact hM7) | (rw [if_pos (show l = 4 by omega)]; rw [if_pos (show l = 4 by omega)] at hM7; exact hM7)))
                                                · skip
                                                  refine w_iload (pc' := 243) (by rfl) dX12_chain_241 rfl ?_
                                                  refine w_iconst (pc' := 244) (by decide) dX12_chain_243 rfl ?_
                                                  refine w_icmp_ne (pc' := 247) (t := 306) dX12_chain_244 rfl rfl (fun c_244 => ?_) (fun c_244 => ?_)
                                                  · skip
                                                    refine v_iinc (pc' := 309) (x := b) (ls' := [gR 133, gI x, gI f, gI d, gI t, gI l, gI a, gJ (AR σ0 d t x a), gX 1, gI (b + 1), gJ ((AR σ0 d t x a) * (AR σ0 d t a b)), gX 1, gI c]) (by omega) (by decide) (by rfl) (by rfl) dX12_chain_306 rfl ?_
                                                    refine w_goto (pc' := 145) dX12_chain_309 rfl ?_
                                                    refine Wp.lose (ls' := [gR 133, gI x, gI f, gI d, gI t, gI l, gI a, gJ (AR σ0 d t x a), gX 1, gI (b + 1), gX 1, gX 1, gX 1]) ⟨.inr rfl, ⟨.inr rfl, ⟨.inr rfl, ⟨.inr rfl, ⟨.inr rfl, ⟨.inr rfl, ⟨.inr rfl, ⟨.inr rfl, ⟨.inr rfl, ⟨.inr rfl, ⟨.inl rfl, ⟨.inr rfl, ⟨.inl rfl, trivial⟩⟩⟩⟩⟩⟩⟩⟩⟩⟩⟩⟩⟩ ?_
                                                    exact ih_145 _ (by omega) (b + 1) b7 o7 R7 rfl (by omega) (by omega) (by rw [if_neg (show ¬ l = 3 by omega)]; rw [if_neg (show ¬ l = 3 by omega)] at hM6; rw [e2, List.foldl_append]; first | exact hM6.zero (rb2_z (by first | omega | (have := g1 (); have := g2 (); omega))) | (rw [rb2_y (by have := g2 (); have := hba (); omega)]; rw [if_neg (show ¬ l = 3 by omega)] at hM7; first | (rw [show c = σ0 3 2 by omega] at hM7; exact hM7) | (rw [if_pos (show l = 4 by omega)]; rw [if_pos (show l = 4 by omega)] at hM7; exact hM7)))
                                                  · skip
                                                    refine w_iload (pc' := 249) (by rfl) dX12_chain_247 rfl ?_
                                                    refine w_iload_n (pc' := 250) (i := 1) (by rfl) (by rfl) dX12_chain_249 rfl ?_
                                                    refine w_icmp_eq (pc' := 253) (t := 300) dX12_chain_250 rfl rfl (fun c_250 => ?_) (fun c_250 => ?_)
                                                    · skip
                                                      refine v_iinc (pc' := 303) (x := c) (ls' := [gR 133, gI x, gI f, gI d, gI t, gI l, gI a, gJ (AR σ0 d t x a), gX 1, gI b, gJ ((AR σ0 d t x a) * (AR σ0 d t a b)), gX 1, gI (c + 1)]) (by omega) (by decide) (by rfl) (by rfl) dX12_chain_300 rfl ?_
                                                      refine w_goto (pc' := 232) dX12_chain_303 rfl ?_
                                                      exact ih_232 _ (by omega) (c + 1) b7 o7 R7 rfl (by omega) (by omega) (by rw [if_neg (show ¬ l = 4 by omega)]; rw [if_neg (show ¬ l = 4 by omega)] at hM7; rw [e3, List.foldl_append]; first | exact hM7.zero (rk5_z (by omega)) | (by_cases z : c = b ∨ (AR σ0 d t) b c = 0 ∨ (AR σ0 d t) c f = 0; (have z1 : (AR σ0 d t) b c = 0 ∨ (AR σ0 d t) c f = 0 := by rcases z with z | z | z; exact Or.inl (by rw [z]; exact abb); exact Or.inl z; exact Or.inr z); (have z2 : (AR σ0 d t) x a * (AR σ0 d t) a b * (AR σ0 d t) b c * (AR σ0 d t) c f = 0 := by rcases z1 with z | z; rw [z, Int.mul_zero, Int.zero_mul]; rw [z, Int.mul_zero]); (rw [rk5_z (by omega)]; first | exact hM7 | (exfalso; have := hM7.ge; omega)); rw [rk5_y (by omega)]; first | exact hM7.no c_297 | exact hM7.yes c_297 rfl kpR_5))
                                                    · skip
                                                      refine w_iload (pc' := 255) (by rfl) dX12_chain_253 rfl ?_
                                                      refine w_iload_n (pc' := 256) (i := 2) (by rfl) (by rfl) dX12_chain_255 rfl ?_
                                                      refine w_icmp_eq (pc' := 259) (t := 300) dX12_chain_256 rfl rfl (fun c_256 => ?_) (fun c_256 => ?_)
                                                      · skip
                                                        refine v_iinc (pc' := 303) (x := c) (ls' := [gR 133, gI x, gI f, gI d, gI t, gI l, gI a, gJ (AR σ0 d t x a), gX 1, gI b, gJ ((AR σ0 d t x a) * (AR σ0 d t a b)), gX 1, gI (c + 1)]) (by omega) (by decide) (by rfl) (by rfl) dX12_chain_300 rfl ?_
                                                        refine w_goto (pc' := 232) dX12_chain_303 rfl ?_
                                                        exact ih_232 _ (by omega) (c + 1) b7 o7 R7 rfl (by omega) (by omega) (by rw [if_neg (show ¬ l = 4 by omega)]; rw [if_neg (show ¬ l = 4 by omega)] at hM7; rw [e3, List.foldl_append]; first | exact hM7.zero (rk5_z (by omega)) | (by_cases z : c = b ∨ (AR σ0 d t) b c = 0 ∨ (AR σ0 d t) c f = 0; (have z1 : (AR σ0 d t) b c = 0 ∨ (AR σ0 d t) c f = 0 := by rcases z with z | z | z; exact Or.inl (by rw [z]; exact abb); exact Or.inl z; exact Or.inr z); (have z2 : (AR σ0 d t) x a * (AR σ0 d t) a b * (AR σ0 d t) b c * (AR σ0 d t) c f = 0 := by rcases z1 with z | z; rw [z, Int.mul_zero, Int.zero_mul]; rw [z, Int.mul_zero]); (rw [rk5_z (by omega)]; first | exact hM7 | (exfalso; have := hM7.ge; omega)); rw [rk5_y (by omega)]; first | exact hM7.no c_297 | exact hM7.yes c_297 rfl kpR_5))
                                                      · skip
                                                        refine w_iload (pc' := 261) (by rfl) dX12_chain_259 rfl ?_
                                                        refine w_iload (pc' := 263) (by rfl) dX12_chain_261 rfl ?_
                                                        refine w_icmp_eq (pc' := 266) (t := 300) dX12_chain_263 rfl rfl (fun c_263 => ?_) (fun c_263 => ?_)
                                                        · skip
                                                          refine v_iinc (pc' := 303) (x := c) (ls' := [gR 133, gI x, gI f, gI d, gI t, gI l, gI a, gJ (AR σ0 d t x a), gX 1, gI b, gJ ((AR σ0 d t x a) * (AR σ0 d t a b)), gX 1, gI (c + 1)]) (by omega) (by decide) (by rfl) (by rfl) dX12_chain_300 rfl ?_
                                                          refine w_goto (pc' := 232) dX12_chain_303 rfl ?_
                                                          exact ih_232 _ (by omega) (c + 1) b7 o7 R7 rfl (by omega) (by omega) (by rw [if_neg (show ¬ l = 4 by omega)]; rw [if_neg (show ¬ l = 4 by omega)] at hM7; rw [e3, List.foldl_append]; first | exact hM7.zero (rk5_z (by omega)) | (by_cases z : c = b ∨ (AR σ0 d t) b c = 0 ∨ (AR σ0 d t) c f = 0; (have z1 : (AR σ0 d t) b c = 0 ∨ (AR σ0 d t) c f = 0 := by rcases z with z | z | z; exact Or.inl (by rw [z]; exact abb); exact Or.inl z; exact Or.inr z); (have z2 : (AR σ0 d t) x a * (AR σ0 d t) a b * (AR σ0 d t) b c * (AR σ0 d t) c f = 0 := by rcases z1 with z | z; rw [z, Int.mul_zero, Int.zero_mul]; rw [z, Int.mul_zero]); (rw [rk5_z (by omega)]; first | exact hM7 | (exfalso; have := hM7.ge; omega)); rw [rk5_y (by omega)]; first | exact hM7.no c_297 | exact hM7.yes c_297 rfl kpR_5))
                                                        · skip
                                                          refine w_aload_n (pc' := 267) (i := 0) (by rfl) (by rfl) dX12_chain_266 rfl ?_
                                                          refine w_lload (pc' := 269) (by rfl) dX12_chain_267 rfl ?_
                                                          refine w_aload_n (pc' := 270) (i := 0) (by rfl) (by rfl) dX12_chain_269 rfl ?_
                                                          refine w_iload (pc' := 272) (by rfl) dX12_chain_270 rfl ?_
                                                          refine w_iload (pc' := 274) (by rfl) dX12_chain_272 rfl ?_
                                                          refine v_callVE (pc' := 277) (st' := [gI (AR σ0 d t b c), gJ ((AR σ0 d t x a) * (AR σ0 d t a b)), gR 133]) (d' := 0) (av := [gI b, gI c]) mi_mX12_at lk_X12_332 rfl ci_X12 kd_133 rfl (Nat.le_of_ble_eq_true rfl) (Nat.le_of_ble_eq_true rfl) dX12_chain_274 rfl rfl (q_atA (σ := gUr (gUp (gUp σ34 133 52 b7) 133 51 o7) 171 R7) (A := AR σ0 d t) (fun x f a b c e => (hw_34.1 x f a b c e).1) b c ⟨by omega, by omega⟩ ⟨by omega, by omega⟩) ?_
                                                          refine w_i2l (pc' := 278) dX12_chain_277 rfl ?_
                                                          refine v_lmul (pc' := 279) (by omega) dX12_chain_278 rfl ?_
                                                          refine w_aload_n (pc' := 280) (i := 0) (by rfl) (by rfl) dX12_chain_279 rfl ?_
                                                          refine w_iload (pc' := 282) (by rfl) dX12_chain_280 rfl ?_
                                                          refine w_iload_n (pc' := 283) (i := 2) (by rfl) (by rfl) dX12_chain_282 rfl ?_
                                                          refine v_callVE (pc' := 286) (st' := [gI (AR σ0 d t c f), gJ (((AR σ0 d t x a) * (AR σ0 d t a b)) * (AR σ0 d t b c)), gR 133]) (d' := 0) (av := [gI c, gI f]) mi_mX12_at lk_X12_332 rfl ci_X12 kd_133 rfl (Nat.le_of_ble_eq_true rfl) (Nat.le_of_ble_eq_true rfl) dX12_chain_283 rfl rfl (q_atA (σ := gUr (gUp (gUp σ34 133 52 b7) 133 51 o7) 171 R7) (A := AR σ0 d t) (fun x f a b c e => (hw_34.1 x f a b c e).1) c f ⟨by omega, by omega⟩ ⟨by omega, by omega⟩) ?_
                                                          refine w_i2l (pc' := 287) dX12_chain_286 rfl ?_
                                                          refine v_lmul (pc' := 288) (by omega) dX12_chain_287 rfl ?_
                                                          refine w_iconst (pc' := 289) (by decide) dX12_chain_288 rfl ?_
                                                          refine w_iload_n (pc' := 290) (i := 1) (by rfl) (by rfl) dX12_chain_289 rfl ?_
                                                          refine w_iload (pc' := 292) (by rfl) dX12_chain_290 rfl ?_
                                                          refine w_iload (pc' := 294) (by rfl) dX12_chain_292 rfl ?_
                                                          refine w_iload (pc' := 296) (by rfl) dX12_chain_294 rfl ?_
                                                          refine w_iload_n (pc' := 297) (i := 2) (by rfl) (by rfl) dX12_chain_296 rfl ?_
                                                          by_cases c_297 : ((((AR σ0 d t x a) * (AR σ0 d t a b)) * (AR σ0 d t b c)) * (AR σ0 d t c f)) ≤ b7
                                                          · skip
                                                            refine v_callVE (pc' := 300) (st' := []) (d' := 0) (av := [gJ ((((AR σ0 d t x a) * (AR σ0 d t a b)) * (AR σ0 d t b c)) * (AR σ0 d t c f)), gI 5, gI x, gI a, gI b, gI c, gI f]) mi_mX12_keep lk_X12_364 rfl ci_X12 kd_133 rfl (Nat.le_of_ble_eq_true rfl) (Nat.le_of_ble_eq_true rfl) dX12_chain_297 rfl rfl (q_keepN (σ := gUr (gUp (gUp σ34 133 52 b7) 133 51 o7) 171 R7) ((((AR σ0 d t x a) * (AR σ0 d t a b)) * (AR σ0 d t b c)) * (AR σ0 d t c f)) 5 x a b c f (by omega) c_297) ?_
                                                            show Wp _ _ _ (gUr (gUp (gUp σ34 133 52 b7) 133 51 o7) 171 R7) _ _ []
                                                            refine v_iinc (pc' := 303) (x := c) (ls' := [gR 133, gI x, gI f, gI d, gI t, gI l, gI a, gJ (AR σ0 d t x a), gX 1, gI b, gJ ((AR σ0 d t x a) * (AR σ0 d t a b)), gX 1, gI (c + 1)]) (by omega) (by decide) (by rfl) (by rfl) dX12_chain_300 rfl ?_
                                                            refine w_goto (pc' := 232) dX12_chain_303 rfl ?_
                                                            exact ih_232 _ (by omega) (c + 1) b7 o7 R7 rfl (by omega) (by omega) (by rw [if_neg (show ¬ l = 4 by omega)]; rw [if_neg (show ¬ l = 4 by omega)] at hM7; rw [e3, List.foldl_append]; first | exact hM7.zero (rk5_z (by omega)) | (by_cases z : c = b ∨ (AR σ0 d t) b c = 0 ∨ (AR σ0 d t) c f = 0; (have z1 : (AR σ0 d t) b c = 0 ∨ (AR σ0 d t) c f = 0 := by rcases z with z | z | z; exact Or.inl (by rw [z]; exact abb); exact Or.inl z; exact Or.inr z); (have z2 : (AR σ0 d t) x a * (AR σ0 d t) a b * (AR σ0 d t) b c * (AR σ0 d t) c f = 0 := by rcases z1 with z | z; rw [z, Int.mul_zero, Int.zero_mul]; rw [z, Int.mul_zero]); (rw [rk5_z (by omega)]; first | exact hM7 | (exfalso; have := hM7.ge; omega)); rw [rk5_y (by omega)]; first | exact hM7.no c_297 | exact hM7.yes c_297 rfl kpR_5))
                                                          · skip
                                                            refine w_callV (pc' := 300) (d' := 0) (av := [gJ ((((AR σ0 d t x a) * (AR σ0 d t a b)) * (AR σ0 d t b c)) * (AR σ0 d t c f)), gI 5, gI x, gI a, gI b, gI c, gI f]) mi_mX12_keep lk_X12_364 rfl ci_X12 kd_133 rfl (Nat.le_of_ble_eq_true rfl) (Nat.le_of_ble_eq_true rfl) dX12_chain_297 rfl (q_keepY (σ := gUr (gUp (gUp σ34 133 52 b7) 133 51 o7) 171 R7) ((((AR σ0 d t x a) * (AR σ0 d t a b)) * (AR σ0 d t b c)) * (AR σ0 d t c f)) 5 x a b c f (by omega) c_297) (fun v_297 σ_297 q_297 => ?_)
                                                            obtain ⟨rfl, rfl⟩ := q_297
                                                            refine Wp.heq (σ' := gUr (gUp (gUp σ34 133 52 ((((AR σ0 d t x a) * (AR σ0 d t a b)) * (AR σ0 d t b c)) * (AR σ0 d t c f))) 133 51 5) 171 (kpR R7 5 x a b c f)) ((congrArg (fun z => gUr z 171 (kpR R7 5 x a b c f)) ((congrArg (fun z => gUp z 133 51 5) ((gUp_cr (by decide)).trans (congrArg (fun z => gUr z 171 R7) ((gUp_ci (by decide)).trans (congrArg (fun z => gUp z 133 51 o7) gUp_same))))).trans ((gUp_cr (by decide)).trans (congrArg (fun z => gUr z 171 R7) gUp_same)))).trans gUr_same) ?_
                                                            show Wp _ _ _ _ _ _ []
                                                            show Wp _ _ _ (gUr (gUp (gUp σ34 133 52 ((((AR σ0 d t x a) * (AR σ0 d t a b)) * (AR σ0 d t b c)) * (AR σ0 d t c f))) 133 51 5) 171 (kpR R7 5 x a b c f)) _ _ []
                                                            refine v_iinc (pc' := 303) (x := c) (ls' := [gR 133, gI x, gI f, gI d, gI t, gI l, gI a, gJ (AR σ0 d t x a), gX 1, gI b, gJ ((AR σ0 d t x a) * (AR σ0 d t a b)), gX 1, gI (c + 1)]) (by omega) (by decide) (by rfl) (by rfl) dX12_chain_300 rfl ?_
                                                            refine w_goto (pc' := 232) dX12_chain_303 rfl ?_
                                                            exact ih_232 _ (by omega) (c + 1) ((((AR σ0 d t x a) * (AR σ0 d t a b)) * (AR σ0 d t b c)) * (AR σ0 d t c f)) 5 (kpR R7 5 x a b c f) rfl (by omega) (by omega) (by rw [if_neg (show ¬ l = 4 by omega)]; rw [if_neg (show ¬ l = 4 by omega)] at hM7; rw [e3, List.foldl_append]; first | exact hM7.zero (rk5_z (by omega)) | (by_cases z : c = b ∨ (AR σ0 d t) b c = 0 ∨ (AR σ0 d t) c f = 0; (have z1 : (AR σ0 d t) b c = 0 ∨ (AR σ0 d t) c f = 0 := by rcases z with z | z | z; exact Or.inl (by rw [z]; exact abb); exact Or.inl z; exact Or.inr z); (have z2 : (AR σ0 d t) x a * (AR σ0 d t) a b * (AR σ0 d t) b c * (AR σ0 d t) c f = 0 := by rcases z1 with z | z; rw [z, Int.mul_zero, Int.zero_mul]; rw [z, Int.mul_zero]); (rw [rk5_z (by omega)]; first | exact hM7 | (exfalso; have := hM7.ge; omega)); rw [rk5_y (by omega)]; first | exact hM7.no c_297 | exact hM7.yes c_297 rfl kpR_5))
                                            exact hl_232 _ 0 b3 o3 R3 rfl (by omega) (by omega) (by exact h3)
                                          refine w_iload (pc' := 198) (by rfl) dX12_chain_196 rfl ?_
                                          refine w_iconst (pc' := 199) (by decide) dX12_chain_198 rfl ?_
                                          refine w_icmp_ne (pc' := 202) (t := 229) dX12_chain_199 rfl rfl (fun c_199 => ?_) (fun c_199 => ?_)
                                          · skip
                                            exact hj_229 b6 o6 R6 (by first | (rw [if_neg (show ¬ l = 4 by omega)]; exact hM6) | (rw [if_pos (show l = 4 by omega)]; unfold rk4; by_cases z : (AR σ0 d t) b f = 0; (rw [if_pos z]; first | exact hM6 | (exfalso; rw [z, Int.mul_zero, Int.zero_mul] at c_226; exact c_226 hM6.ge)); rw [if_neg z]; first | exact hM6.no c_226 | exact hM6.yes c_226 rfl kpR_4))
                                          · skip
                                            refine w_aload_n (pc' := 203) (i := 0) (by rfl) (by rfl) dX12_chain_202 rfl ?_
                                            refine w_lload (pc' := 205) (by rfl) dX12_chain_203 rfl ?_
                                            refine w_aload_n (pc' := 206) (i := 0) (by rfl) (by rfl) dX12_chain_205 rfl ?_
                                            refine w_iload (pc' := 208) (by rfl) dX12_chain_206 rfl ?_
                                            refine w_iload_n (pc' := 209) (i := 2) (by rfl) (by rfl) dX12_chain_208 rfl ?_
                                            refine v_callVE (pc' := 212) (st' := [gI (AR σ0 d t b f), gJ ((AR σ0 d t x a) * (AR σ0 d t a b)), gR 133]) (d' := 0) (av := [gI b, gI f]) mi_mX12_at lk_X12_332 rfl ci_X12 kd_133 rfl (Nat.le_of_ble_eq_true rfl) (Nat.le_of_ble_eq_true rfl) dX12_chain_209 rfl rfl (q_atA (σ := gUr (gUp (gUp σ34 133 52 b6) 133 51 o6) 171 R6) (A := AR σ0 d t) (fun x f a b c e => (hw_34.1 x f a b c e).1) b f ⟨by omega, by omega⟩ ⟨by omega, by omega⟩) ?_
                                            refine w_i2l (pc' := 213) dX12_chain_212 rfl ?_
                                            refine v_lmul (pc' := 214) (by omega) dX12_chain_213 rfl ?_
                                            refine w_ldc2 (pc' := 217) (by decide) ct_X12_342 dX12_chain_214 rfl ?_
                                            refine v_lmul (pc' := 218) (by omega) dX12_chain_217 rfl ?_
                                            refine w_iconst (pc' := 219) (by decide) dX12_chain_218 rfl ?_
                                            refine w_iload_n (pc' := 220) (i := 1) (by rfl) (by rfl) dX12_chain_219 rfl ?_
                                            refine w_iload (pc' := 222) (by rfl) dX12_chain_220 rfl ?_
                                            refine w_iload (pc' := 224) (by rfl) dX12_chain_222 rfl ?_
                                            refine w_iconst (pc' := 225) (by decide) dX12_chain_224 rfl ?_
                                            refine w_iload_n (pc' := 226) (i := 2) (by rfl) (by rfl) dX12_chain_225 rfl ?_
                                            by_cases c_226 : ((((AR σ0 d t x a) * (AR σ0 d t a b)) * (AR σ0 d t b f)) * 10000) ≤ b6
                                            · skip
                                              refine v_callVE (pc' := 229) (st' := []) (d' := 0) (av := [gJ ((((AR σ0 d t x a) * (AR σ0 d t a b)) * (AR σ0 d t b f)) * 10000), gI 4, gI x, gI a, gI b, gI 0, gI f]) mi_mX12_keep lk_X12_364 rfl ci_X12 kd_133 rfl (Nat.le_of_ble_eq_true rfl) (Nat.le_of_ble_eq_true rfl) dX12_chain_226 rfl rfl (q_keepN (σ := gUr (gUp (gUp σ34 133 52 b6) 133 51 o6) 171 R6) ((((AR σ0 d t x a) * (AR σ0 d t a b)) * (AR σ0 d t b f)) * 10000) 4 x a b 0 f (by omega) c_226) ?_
                                              show Wp _ _ _ (gUr (gUp (gUp σ34 133 52 b6) 133 51 o6) 171 R6) _ _ []
                                              exact hj_229 b6 o6 R6 (by first | (rw [if_neg (show ¬ l = 4 by omega)]; exact hM6) | (rw [if_pos (show l = 4 by omega)]; unfold rk4; by_cases z : (AR σ0 d t) b f = 0; (rw [if_pos z]; first | exact hM6 | (exfalso; rw [z, Int.mul_zero, Int.zero_mul] at c_226; exact c_226 hM6.ge)); rw [if_neg z]; first | exact hM6.no c_226 | exact hM6.yes c_226 rfl kpR_4))
                                            · skip
                                              refine w_callV (pc' := 229) (d' := 0) (av := [gJ ((((AR σ0 d t x a) * (AR σ0 d t a b)) * (AR σ0 d t b f)) * 10000), gI 4, gI x, gI a, gI b, gI 0, gI f]) mi_mX12_keep lk_X12_364 rfl ci_X12 kd_133 rfl (Nat.le_of_ble_eq_true rfl) (Nat.le_of_ble_eq_true rfl) dX12_chain_226 rfl (q_keepY (σ := gUr (gUp (gUp σ34 133 52 b6) 133 51 o6) 171 R6) ((((AR σ0 d t x a) * (AR σ0 d t a b)) * (AR σ0 d t b f)) * 10000) 4 x a b 0 f (by omega) c_226) (fun v_226 σ_226 q_226 => ?_)
                                              obtain ⟨rfl, rfl⟩ := q_226
                                              refine Wp.heq (σ' := gUr (gUp (gUp σ34 133 52 ((((AR σ0 d t x a) * (AR σ0 d t a b)) * (AR σ0 d t b f)) * 10000)) 133 51 4) 171 (kpR R6 4 x a b 0 f)) ((congrArg (fun z => gUr z 171 (kpR R6 4 x a b 0 f)) ((congrArg (fun z => gUp z 133 51 4) ((gUp_cr (by decide)).trans (congrArg (fun z => gUr z 171 R6) ((gUp_ci (by decide)).trans (congrArg (fun z => gUp z 133 51 o6) gUp_same))))).trans ((gUp_cr (by decide)).trans (congrArg (fun z => gUr z 171 R6) gUp_same)))).trans gUr_same) ?_
                                              show Wp _ _ _ _ _ _ []
                                              show Wp _ _ _ (gUr (gUp (gUp σ34 133 52 ((((AR σ0 d t x a) * (AR σ0 d t a b)) * (AR σ0 d t b f)) * 10000)) 133 51 4) 171 (kpR R6 4 x a b 0 f)) _ _ []
                                              exact hj_229 ((((AR σ0 d t x a) * (AR σ0 d t a b)) * (AR σ0 d t b f)) * 10000) 4 (kpR R6 4 x a b 0 f) (by first | (rw [if_neg (show ¬ l = 4 by omega)]; exact hM6) | (rw [if_pos (show l = 4 by omega)]; unfold rk4; by_cases z : (AR σ0 d t) b f = 0; (rw [if_pos z]; first | exact hM6 | (exfalso; rw [z, Int.mul_zero, Int.zero_mul] at c_226; exact c_226 hM6.ge)); rw [if_neg z]; first | exact hM6.no c_226 | exact hM6.yes c_226 rfl kpR_4))
                                        · skip
                                          refine w_goto (pc' := 306) dX12_chain_193 rfl ?_
                                          refine v_iinc (pc' := 309) (x := b) (ls' := [gR 133, gI x, gI f, gI d, gI t, gI l, gI a, gJ (AR σ0 d t x a), gX 1, gI (b + 1), gJ ((AR σ0 d t x a) * (AR σ0 d t a b)), gX 1, gX 1]) (by omega) (by decide) (by rfl) (by rfl) dX12_chain_306 rfl ?_
                                          refine w_goto (pc' := 145) dX12_chain_309 rfl ?_
                                          refine Wp.lose (ls' := [gR 133, gI x, gI f, gI d, gI t, gI l, gI a, gJ (AR σ0 d t x a), gX 1, gI (b + 1), gX 1, gX 1, gX 1]) ⟨.inr rfl, ⟨.inr rfl, ⟨.inr rfl, ⟨.inr rfl, ⟨.inr rfl, ⟨.inr rfl, ⟨.inr rfl, ⟨.inr rfl, ⟨.inr rfl, ⟨.inr rfl, ⟨.inl rfl, ⟨.inr rfl, ⟨.inr rfl, trivial⟩⟩⟩⟩⟩⟩⟩⟩⟩⟩⟩⟩⟩ ?_
                                          exact ih_145 _ (by omega) (b + 1) b6 o6 R6 rfl (by omega) (by omega) (by rw [if_neg (show ¬ l = 3 by omega)]; rw [if_neg (show ¬ l = 3 by omega)] at hM6; rw [e2, List.foldl_append]; first | exact hM6.zero (rb2_z (by first | omega | (have := g1 (); have := g2 (); omega))) | (rw [rb2_y (by have := g2 (); have := hba (); omega)]; rw [if_neg (show ¬ l = 3 by omega)] at hM7; first | (rw [show c = σ0 3 2 by omega] at hM7; exact hM7) | (rw [if_pos (show l = 4 by omega)]; rw [if_pos (show l = 4 by omega)] at hM7; exact hM7)))
                            exact hl_145 _ 0 b3 o3 R3 rfl (by omega) (by omega) (by exact h3)
                          refine w_iload (pc' := 112) (by rfl) dX12_chain_110 rfl ?_
                          refine w_iconst (pc' := 113) (by decide) dX12_chain_112 rfl ?_
                          refine w_icmp_ne (pc' := 116) (t := 142) dX12_chain_113 rfl rfl (fun c_113 => ?_) (fun c_113 => ?_)
                          · skip
                            exact hj_142 b5 o5 R5 (by first | (rw [if_neg (show ¬ l = 3 by omega)]; exact hM5) | (rw [if_pos (show l = 3 by omega)]; unfold rk3; by_cases z : (AR σ0 d t) a f = 0; (rw [if_pos z]; first | exact hM5 | (exfalso; rw [z, Int.mul_zero, Int.zero_mul] at c_139; exact c_139 hM5.ge)); rw [if_neg z]; first | exact hM5.no c_139 | exact hM5.yes c_139 rfl kpR_3))
                          · skip
                            refine w_aload_n (pc' := 117) (i := 0) (by rfl) (by rfl) dX12_chain_116 rfl ?_
                            refine w_lload (pc' := 119) (by rfl) dX12_chain_117 rfl ?_
                            refine w_aload_n (pc' := 120) (i := 0) (by rfl) (by rfl) dX12_chain_119 rfl ?_
                            refine w_iload (pc' := 122) (by rfl) dX12_chain_120 rfl ?_
                            refine w_iload_n (pc' := 123) (i := 2) (by rfl) (by rfl) dX12_chain_122 rfl ?_
                            refine v_callVE (pc' := 126) (st' := [gI (AR σ0 d t a f), gJ (AR σ0 d t x a), gR 133]) (d' := 0) (av := [gI a, gI f]) mi_mX12_at lk_X12_332 rfl ci_X12 kd_133 rfl (Nat.le_of_ble_eq_true rfl) (Nat.le_of_ble_eq_true rfl) dX12_chain_123 rfl rfl (q_atA (σ := gUr (gUp (gUp σ34 133 52 b5) 133 51 o5) 171 R5) (A := AR σ0 d t) (fun x f a b c e => (hw_34.1 x f a b c e).1) a f ⟨by omega, by omega⟩ ⟨by omega, by omega⟩) ?_
                            refine w_i2l (pc' := 127) dX12_chain_126 rfl ?_
                            refine v_lmul (pc' := 128) (by omega) dX12_chain_127 rfl ?_
                            refine w_ldc2 (pc' := 131) (by decide) ct_X12_340 dX12_chain_128 rfl ?_
                            refine v_lmul (pc' := 132) (by omega) dX12_chain_131 rfl ?_
                            refine w_iconst (pc' := 133) (by decide) dX12_chain_132 rfl ?_
                            refine w_iload_n (pc' := 134) (i := 1) (by rfl) (by rfl) dX12_chain_133 rfl ?_
                            refine w_iload (pc' := 136) (by rfl) dX12_chain_134 rfl ?_
                            refine w_iconst (pc' := 137) (by decide) dX12_chain_136 rfl ?_
                            refine w_iconst (pc' := 138) (by decide) dX12_chain_137 rfl ?_
                            refine w_iload_n (pc' := 139) (i := 2) (by rfl) (by rfl) dX12_chain_138 rfl ?_
                            by_cases c_139 : (((AR σ0 d t x a) * (AR σ0 d t a f)) * 100000000) ≤ b5
                            · skip
                              refine v_callVE (pc' := 142) (st' := []) (d' := 0) (av := [gJ (((AR σ0 d t x a) * (AR σ0 d t a f)) * 100000000), gI 3, gI x, gI a, gI 0, gI 0, gI f]) mi_mX12_keep lk_X12_364 rfl ci_X12 kd_133 rfl (Nat.le_of_ble_eq_true rfl) (Nat.le_of_ble_eq_true rfl) dX12_chain_139 rfl rfl (q_keepN (σ := gUr (gUp (gUp σ34 133 52 b5) 133 51 o5) 171 R5) (((AR σ0 d t x a) * (AR σ0 d t a f)) * 100000000) 3 x a 0 0 f (by omega) c_139) ?_
                              show Wp _ _ _ (gUr (gUp (gUp σ34 133 52 b5) 133 51 o5) 171 R5) _ _ []
                              exact hj_142 b5 o5 R5 (by first | (rw [if_neg (show ¬ l = 3 by omega)]; exact hM5) | (rw [if_pos (show l = 3 by omega)]; unfold rk3; by_cases z : (AR σ0 d t) a f = 0; (rw [if_pos z]; first | exact hM5 | (exfalso; rw [z, Int.mul_zero, Int.zero_mul] at c_139; exact c_139 hM5.ge)); rw [if_neg z]; first | exact hM5.no c_139 | exact hM5.yes c_139 rfl kpR_3))
                            · skip
                              refine w_callV (pc' := 142) (d' := 0) (av := [gJ (((AR σ0 d t x a) * (AR σ0 d t a f)) * 100000000), gI 3, gI x, gI a, gI 0, gI 0, gI f]) mi_mX12_keep lk_X12_364 rfl ci_X12 kd_133 rfl (Nat.le_of_ble_eq_true rfl) (Nat.le_of_ble_eq_true rfl) dX12_chain_139 rfl (q_keepY (σ := gUr (gUp (gUp σ34 133 52 b5) 133 51 o5) 171 R5) (((AR σ0 d t x a) * (AR σ0 d t a f)) * 100000000) 3 x a 0 0 f (by omega) c_139) (fun v_139 σ_139 q_139 => ?_)
                              obtain ⟨rfl, rfl⟩ := q_139
                              refine Wp.heq (σ' := gUr (gUp (gUp σ34 133 52 (((AR σ0 d t x a) * (AR σ0 d t a f)) * 100000000)) 133 51 3) 171 (kpR R5 3 x a 0 0 f)) ((congrArg (fun z => gUr z 171 (kpR R5 3 x a 0 0 f)) ((congrArg (fun z => gUp z 133 51 3) ((gUp_cr (by decide)).trans (congrArg (fun z => gUr z 171 R5) ((gUp_ci (by decide)).trans (congrArg (fun z => gUp z 133 51 o5) gUp_same))))).trans ((gUp_cr (by decide)).trans (congrArg (fun z => gUr z 171 R5) gUp_same)))).trans gUr_same) ?_
                              show Wp _ _ _ _ _ _ []
                              show Wp _ _ _ (gUr (gUp (gUp σ34 133 52 (((AR σ0 d t x a) * (AR σ0 d t a f)) * 100000000)) 133 51 3) 171 (kpR R5 3 x a 0 0 f)) _ _ []
                              exact hj_142 (((AR σ0 d t x a) * (AR σ0 d t a f)) * 100000000) 3 (kpR R5 3 x a 0 0 f) (by first | (rw [if_neg (show ¬ l = 3 by omega)]; exact hM5) | (rw [if_pos (show l = 3 by omega)]; unfold rk3; by_cases z : (AR σ0 d t) a f = 0; (rw [if_pos z]; first | exact hM5 | (exfalso; rw [z, Int.mul_zero, Int.zero_mul] at c_139; exact c_139 hM5.ge)); rw [if_neg z]; first | exact hM5.no c_139 | exact hM5.yes c_139 rfl kpR_3))
                        · skip
                          refine w_goto (pc' := 312) dX12_chain_107 rfl ?_
                          refine v_iinc (pc' := 315) (x := a) (ls' := [gR 133, gI x, gI f, gI d, gI t, gI l, gI (a + 1), gJ (AR σ0 d t x a), gX 1, gX 1, gX 1, gX 1, gX 1]) (by omega) (by decide) (by rfl) (by rfl) dX12_chain_312 rfl ?_
                          refine w_goto (pc' := 75) dX12_chain_315 rfl ?_
                          refine Wp.lose (ls' := [gR 133, gI x, gI f, gI d, gI t, gI l, gI (a + 1), gX 1, gX 1, gX 1, gX 1, gX 1, gX 1]) ⟨.inr rfl, ⟨.inr rfl, ⟨.inr rfl, ⟨.inr rfl, ⟨.inr rfl, ⟨.inr rfl, ⟨.inr rfl, ⟨.inl rfl, ⟨.inr rfl, ⟨.inr rfl, ⟨.inr rfl, ⟨.inr rfl, ⟨.inr rfl, trivial⟩⟩⟩⟩⟩⟩⟩⟩⟩⟩⟩⟩⟩ ?_
                          exact ih_75 _ (by omega) (a + 1) b5 o5 R5 rfl (by omega) (by omega) (by rw [e1, List.foldl_append]; first | exact hM5.zero (rb1_z (by first | omega | (have := g1 (); omega))) | (rw [rb1_y (by have := g1 (); have := hax (); omega)]; first | (rw [show b = σ0 3 2 by omega] at hM6; exact hM6) | (rw [if_pos (show l = 3 by omega)]; rw [if_pos (show l = 3 by omega)] at hM6; exact hM6)))
                exact hl_75 _ 0 b4 o4 R4 rfl (by omega) (by omega) (by exact hM4)
          exact hl_66 _ 3 b3 o3 R3 rfl (by omega) (by omega) (by exact h3)
        refine Wp.heq (σ' := gUr (gUp (gUp σ34 133 52 0) 133 51 (σ34 133 51)) 171 (σ34 171)) ms_form ?_
        refine w_aload_n (pc' := 43) (i := 0) (by rfl) (by rfl) dX12_chain_42 rfl ?_
        refine w_aload_n (pc' := 44) (i := 0) (by rfl) (by rfl) dX12_chain_43 rfl ?_
        refine w_iload_n (pc' := 45) (i := 1) (by rfl) (by rfl) dX12_chain_44 rfl ?_
        refine w_iload_n (pc' := 46) (i := 2) (by rfl) (by rfl) dX12_chain_45 rfl ?_
        refine v_callVE (pc' := 49) (st' := [gI (AR σ0 d t x f), gR 133]) (d' := 0) (av := [gI x, gI f]) mi_mX12_at lk_X12_332 rfl ci_X12 kd_133 rfl (Nat.le_of_ble_eq_true rfl) (Nat.le_of_ble_eq_true rfl) dX12_chain_46 rfl rfl (q_atA (σ := gUr (gUp (gUp σ34 133 52 0) 133 51 (σ34 133 51)) 171 (σ34 171)) (A := AR σ0 d t) (fun x f a b c e => (hw_34.1 x f a b c e).1) x f ⟨by omega, by omega⟩ ⟨by omega, by omega⟩) ?_
        refine w_i2l (pc' := 50) dX12_chain_49 rfl ?_
        refine w_ldc2 (pc' := 53) (by decide) ct_X12_338 dX12_chain_50 rfl ?_
        refine v_lmul (pc' := 54) (by have := hpA x f; omega) dX12_chain_53 rfl ?_
        refine w_iconst (pc' := 55) (by decide) dX12_chain_54 rfl ?_
        refine w_iload_n (pc' := 56) (i := 1) (by rfl) (by rfl) dX12_chain_55 rfl ?_
        refine w_iconst (pc' := 57) (by decide) dX12_chain_56 rfl ?_
        refine w_iconst (pc' := 58) (by decide) dX12_chain_57 rfl ?_
        refine w_iconst (pc' := 59) (by decide) dX12_chain_58 rfl ?_
        refine w_iload_n (pc' := 60) (i := 2) (by rfl) (by rfl) dX12_chain_59 rfl ?_
        by_cases c_60 : ((AR σ0 d t x f) * 1000000000000) ≤ 0
        · skip
          refine v_callVE (pc' := 63) (st' := []) (d' := 0) (av := [gJ ((AR σ0 d t x f) * 1000000000000), gI 2, gI x, gI 0, gI 0, gI 0, gI f]) mi_mX12_keep lk_X12_364 rfl ci_X12 kd_133 rfl (Nat.le_of_ble_eq_true rfl) (Nat.le_of_ble_eq_true rfl) dX12_chain_60 rfl rfl (q_keepN (σ := gUr (gUp (gUp σ34 133 52 0) 133 51 (σ34 133 51)) 171 (σ34 171)) ((AR σ0 d t x f) * 1000000000000) 2 x 0 0 0 f (by omega) c_60) ?_
          show Wp _ _ _ (gUr (gUp (gUp σ34 133 52 0) 133 51 (σ34 133 51)) 171 (σ34 171)) _ _ []
          exact hj_63 0 (σ34 133 51) (σ34 171) (by show MSt (σ34 133 51) (σ34 171) _ _ _ ((if (AR σ0 d t) x f = 0 then [] else [((AR σ0 d t) x f * 1000000000000, [x, f])]).foldl ops zcs); have pxf := hpA x f; have hz0 : MSt (σ34 133 51) (σ34 171) 0 (σ34 133 51) (σ34 171) zcs := ⟨rfl, Or.inl ⟨rfl, rfl, rfl⟩⟩; by_cases z : (AR σ0 d t) x f = 0; (rw [if_pos z]; first | exact hz0 | (exfalso; omega)); rw [if_neg z]; first | exact hz0.no c_60 | exact hz0.yes c_60 rfl kpR_2)
        · skip
          refine w_callV (pc' := 63) (d' := 0) (av := [gJ ((AR σ0 d t x f) * 1000000000000), gI 2, gI x, gI 0, gI 0, gI 0, gI f]) mi_mX12_keep lk_X12_364 rfl ci_X12 kd_133 rfl (Nat.le_of_ble_eq_true rfl) (Nat.le_of_ble_eq_true rfl) dX12_chain_60 rfl (q_keepY (σ := gUr (gUp (gUp σ34 133 52 0) 133 51 (σ34 133 51)) 171 (σ34 171)) ((AR σ0 d t x f) * 1000000000000) 2 x 0 0 0 f (by omega) c_60) (fun v_60 σ_60 q_60 => ?_)
          obtain ⟨rfl, rfl⟩ := q_60
          refine Wp.heq (σ' := gUr (gUp (gUp σ34 133 52 ((AR σ0 d t x f) * 1000000000000)) 133 51 2) 171 (kpR (σ34 171) 2 x 0 0 0 f)) ((congrArg (fun z => gUr z 171 (kpR (σ34 171) 2 x 0 0 0 f)) ((congrArg (fun z => gUp z 133 51 2) ((gUp_cr (by decide)).trans (congrArg (fun z => gUr z 171 (σ34 171)) ((gUp_ci (by decide)).trans (congrArg (fun z => gUp z 133 51 (σ34 133 51)) gUp_same))))).trans ((gUp_cr (by decide)).trans (congrArg (fun z => gUr z 171 (σ34 171)) gUp_same)))).trans gUr_same) ?_
          show Wp _ _ _ _ _ _ []
          show Wp _ _ _ (gUr (gUp (gUp σ34 133 52 ((AR σ0 d t x f) * 1000000000000)) 133 51 2) 171 (kpR (σ34 171) 2 x 0 0 0 f)) _ _ []
          exact hj_63 ((AR σ0 d t x f) * 1000000000000) 2 (kpR (σ34 171) 2 x 0 0 0 f) (by show MSt (σ34 133 51) (σ34 171) _ _ _ ((if (AR σ0 d t) x f = 0 then [] else [((AR σ0 d t) x f * 1000000000000, [x, f])]).foldl ops zcs); have pxf := hpA x f; have hz0 : MSt (σ34 133 51) (σ34 171) 0 (σ34 133 51) (σ34 171) zcs := ⟨rfl, Or.inl ⟨rfl, rfl, rfl⟩⟩; by_cases z : (AR σ0 d t) x f = 0; (rw [if_pos z]; first | exact hz0 | (exfalso; omega)); rw [if_neg z]; first | exact hz0.no c_60 | exact hz0.yes c_60 rfl kpR_2)
      · skip
        refine w_iconst (pc' := 29) (by decide) dX12_chain_28 rfl ?_
        refine v_ireturn rfl dX12_chain_29 ?_
        have eb : bc = zcs := by
          have e9 : x = f := by omega
          subst e9
          rw [← hbc]
          unfold BCH
          rw [BCH_self 4 [x] x 1 (List.mem_singleton.mpr rfl)]
          rfl
        have el : (bc.2.length : Int) = 0 := by rw [eb]; rfl
        exact ⟨by rw [if_pos (by omega), el], Or.inl ⟨by omega, QM.up (QM.reflW hI) (by decide) (fun h => h)⟩⟩
    · skip
      refine w_iconst (pc' := 22) (by decide) dX12_chain_21 rfl ?_
      refine v_ireturn rfl dX12_chain_22 ?_
      exact ⟨by rw [if_neg (by omega)], Or.inl ⟨by omega, QM.up (QM.reflW hI) (by decide) (fun h => h)⟩⟩
theorem ci_chain (x f d t : Int) : CI Inv mX11_chain mX12_chain [gI x, gI f, gI d, gI t] := by
  refine CI_of fun σ0 hg hI => ?_
  have hok := (BCH_ok (A := AR σ0 d t) (x := x) (f := f) (fun y z => (AR_in hI d t y z).1)).len
  obtain ⟨bc, hbc⟩ : ∃ bc, BCH (AR σ0 d t) x f = bc := ⟨_, rfl⟩
  rw [hbc] at hok
  refine ⟨if ((0 ≤ x ∧ x < σ0 3 2) ∧ 0 ≤ f ∧ f < σ0 3 2) ∧ 0 ≤ d ∧ d ≤ 9999 then (bc.2.length : Int) else -1, fun σ' => (¬ ((((0 ≤ x ∧ x < σ0 3 2) ∧ 0 ≤ f ∧ f < σ0 3 2) ∧ 0 ≤ d ∧ d ≤ 9999) ∧ 0 < (bc.2.length : Int)) ∧ QC σ0 σ') ∨ ((((0 ≤ x ∧ x < σ0 3 2) ∧ 0 ≤ f ∧ f < σ0 3 2) ∧ 0 ≤ d ∧ d ≤ 9999) ∧ 0 < (bc.2.length : Int) ∧ ∃ σq R, QC σ0 σq ∧ σ' = gUp (gUr σq 2 R) 0 3 (bc.2.length : Int) ∧ rowL R 0 bc.2), x_chain hI x f d t hbc, fun σ1 hg1 q => ?_⟩
  rcases q with ⟨c, q⟩ | ⟨c, c2, σq, R, q, e1, hR⟩
  · have h1 := q.inv hI
    have e3 : σ1 3 2 = σ0 3 2 := q.rd (.inr rfl)
    have eA : AR σ1 d t = AR σ0 d t := by
      have k : AR (hm σ1) d t = AR (hm σ0) d t := by rw [q.1]
      exact k
    have k := m_chain h1.w x f d t (bc := bc) (by rw [eA]; exact hbc)
    rw [e3] at k
    refine k.mono fun v σ2 r => ⟨r.1, ?_⟩
    rcases r.2 with ⟨_, r⟩ | ⟨r1, r2, _⟩
    · exact r.inv h1
    · exact absurd ⟨r1, r2⟩ c
  · subst e1
    have h1 := q.inv hI
    have e3 : σq 3 2 = σ0 3 2 := q.rd (.inr rfl)
    have eA : AR σq d t = AR σ0 d t := by
      have k : AR (hm σq) d t = AR (hm σ0) d t := by rw [q.1]
      exact k
    have hw : IW (gUp (gUr σq 2 R) 0 3 (bc.2.length : Int)) := h1.w
    have eB : AR (gUp (gUr σq 2 R) 0 3 (bc.2.length : Int)) d t = AR σ0 d t := eA
    have k := m_chain hw x f d t (bc := bc) (by rw [eB]; exact hbc)
    have e4 : (gUp (gUr σq 2 R) 0 3 (bc.2.length : Int)) 3 2 = σ0 3 2 := e3
    rw [e4] at k
    refine k.mono fun v σ2 r => ⟨r.1, ?_⟩
    rcases r.2 with ⟨r1, _⟩ | ⟨r1, r2, σm, b, R', qm, e2, hR'⟩
    · exact absurd ⟨c, c2⟩ r1
    · subst e2
      have hwm : IW (gUr (gUp (gUp σm 133 52 b) 133 51 (bc.2.length : Int)) 171 R') := qm.iw hw
      have e03 : σm 0 3 = (bc.2.length : Int) := qm.rd (k := 0) (i := 3) (.inl (by decide))
      refine hwm.inv ⟨e03.symm, ?_, ?_, fun i a b => ?_⟩
      · show 0 ≤ σm 0 3
        omega
      · show σm 0 3 ≤ 5
        omega
      · have e2 : σm 2 i = R i := qm.rd (k := 2) (i := i) (.inl (by decide))
        show R' i = σm 2 i
        have b2 : i < σm 0 3 := b
        rw [e2]
        exact rowL_eq _ 0 hR' hR i a (by omega)
