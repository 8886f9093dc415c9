/-! what one has been asked: both sides, the call (gen/mod_ask.py) -/
noncomputable def STV (σ : gH) (g t : Int) : Int := if RULE σ g t = -1 then 0 else if TOLD σ g t ≠ -1 then (if TOLD σ g t ≤ DUE σ g t then 1 else 2) else if t ≤ DUE σ g t then 3 else 4
noncomputable def rcT (σ : gH) (p t w g : Int) : Int := if σ 43 g = p ∧ σ 49 g ≤ t then (if w = 0 ∨ (w = 1 ∧ TOLD σ g t ≠ -1) then 1 else if w = 4 ∧ TOLD σ g t ≠ -1 then LEAST σ g t else if (w = 2 ∧ STV σ g t = 2) ∨ (w = 3 ∧ STV σ g t = 4) then 1 else 0) else 0
noncomputable def RC (σ : gH) (p t w : Int) (n : Nat) : Int := sumI (rcT σ p t w) n
theorem rcT_in {σ : gH} (hI : Inv σ) {p t w g : Int} (h0 : 0 ≤ g) (h1 : g < σ 41 11) : 0 ≤ rcT σ p t w g ∧ rcT σ p t w g ≤ 1000000 := by
  have := LEAST_in hI (t := t) h0 h1
  unfold rcT
  split
  · split
    · omega
    · split
      · exact this
      · split <;> omega
  · omega
theorem RC_in {σ : gH} (hI : Inv σ) {p t w j : Int} (h0 : 0 ≤ j) (h1 : j ≤ σ 41 11) : 0 ≤ RC σ p t w j.toNat ∧ RC σ p t w j.toNat ≤ 1000000 * j := by
  constructor
  · exact sumI_nonneg fun i a b => (rcT_in hI a (by omega)).1
  · have k : sumI (rcT σ p t w) j.toNat ≤ sumI (fun _ => 1000000) j.toNat := sumI_le fun i a b => (rcT_in hI a (by omega)).2
    rw [sumI_const, Int.toNat_of_nonneg h0] at k
    exact k
theorem RC_s {σ : gH} {p t w j : Int} (h0 : 0 ≤ j) : RC σ p t w (j + 1).toNat = RC σ p t w j.toNat + rcT σ p t w j := sumI_s h0
theorem gCmp_pos {x y : Int} : gCmp x y ≤ 0 ↔ x ≤ y := by
  unfold gCmp
  repeat' split
  all_goals omega
theorem tq_pos {v : Int} (h : 0 ≤ v) : v.tdiv 1000000000000 = v / 1000000000000 := Int.tdiv_eq_ediv_of_nonneg h
theorem tq_neg {v : Int} (h : v < 0) : v.tdiv 1000000000000 = -((-v) / 1000000000000) := by
  rw [← tq_pos (v := -v) (by omega), Int.neg_tdiv, Int.neg_neg]
theorem tq_in {v : Int} (h : gi64 v) : w64 (v.tdiv 1000000000000) = v.tdiv 1000000000000 ∧ w32 (v.tdiv 1000000000000) = v.tdiv 1000000000000 ∧ -10000000 < v.tdiv 1000000000000 ∧ v.tdiv 1000000000000 < 10000000 ∧ (0 ≤ v → 0 ≤ v.tdiv 1000000000000) := by
  have b : -10000000 < v.tdiv 1000000000000 ∧ v.tdiv 1000000000000 < 10000000 ∧ (0 ≤ v → 0 ≤ v.tdiv 1000000000000) := by
    have a := h.1
    have c := h.2
    by_cases e : 0 ≤ v
    · rw [tq_pos e]; omega
    · rw [tq_neg (by omega)]; omega
  exact ⟨w64_id ⟨by omega, by omega⟩, w32_id ⟨by omega, by omega⟩, b⟩
theorem tq_mono {a b : Int} (h : a ≤ b) : a.tdiv 1000000000000 ≤ b.tdiv 1000000000000 := by
  by_cases e : 0 ≤ a
  · rw [tq_pos e, tq_pos (by omega)]; omega
  · rw [tq_neg (by omega)]
    by_cases e2 : 0 ≤ b
    · rw [tq_pos e2]; omega
    · rw [tq_neg (by omega)]; omega
/-- the reference's greatest, cut on the way -/
def nW (g : Int → Int) : Nat → Int
  | 0 => 0
  | n + 1 => if nW g n < (g n).tdiv 1000000000000 then (g n).tdiv 1000000000000 else nW g n
theorem nW_s {g : Int → Int} {i : Int} (h : 0 ≤ i) : nW g (i + 1).toNat = if nW g i.toNat < (g i).tdiv 1000000000000 then (g i).tdiv 1000000000000 else nW g i.toNat := by
  have e : (i + 1).toNat = i.toNat + 1 := by omega
  have e2 : ((i.toNat : Nat) : Int) = i := Int.toNat_of_nonneg h
  rw [e]
  show (if nW g i.toNat < (g (i.toNat : Int)).tdiv 1000000000000 then _ else _) = _
  rw [e2]
theorem big_in {g : Int → Int} (hg : ∀ i, gi64 (g i)) : ∀ n : Nat, 0 ≤ bigW g n ∧ gi64 (bigW g n)
  | 0 => ⟨Int.le_refl _, by show gi64 0; decide⟩
  | n + 1 => by
    have ih := big_in hg n
    show 0 ≤ (if g n < bigW g n then bigW g n else g n) ∧ gi64 (if g n < bigW g n then bigW g n else g n)
    split
    · exact ih
    · exact ⟨by omega, hg n⟩
theorem nW_big {g : Int → Int} (hg : ∀ i, gi64 (g i)) : ∀ n : Nat, nW g n = (bigW g n).tdiv 1000000000000
  | 0 => rfl
  | n + 1 => by
    show (if nW g n < (g n).tdiv 1000000000000 then (g n).tdiv 1000000000000 else nW g n) = (if g n < bigW g n then bigW g n else g n).tdiv 1000000000000
    rw [nW_big hg n]
    by_cases c : g n < bigW g n
    · rw [if_pos c]
      have := tq_mono (show g n ≤ bigW g n by omega)
      rw [if_neg (by omega)]
    · rw [if_neg c]
      have := tq_mono (show bigW g n ≤ g n by omega)
      split
      · rfl
      · omega
theorem nW_cut {g : Int → Int} (hg : ∀ i, gi64 (g i)) (n : Nat) : cutP (bigW g n) = nW g n := by
  have b := tq_in (big_in hg n).2
  show w32 (w64 ((bigW g n).tdiv 1000000000000)) = nW g n
  rw [nW_big hg n, b.1, b.2.1]
theorem nW_more {g : Int → Int} {n : Nat} (h0 : 0 ≤ nW g n) : ∀ m : Nat, n ≤ m → (∀ i : Int, n ≤ i → i < m → g i = 0) → nW g m = nW g n
  | 0, h, _ => by have : n = 0 := by omega
                  subst this; rfl
  | m + 1, h, hz => by
    by_cases e : n = m + 1
    · subst e; rfl
    · have ih := nW_more h0 m (by omega) (fun i a b => hz i a (by omega))
      show (if nW g m < (g m).tdiv 1000000000000 then (g m).tdiv 1000000000000 else nW g m) = _
      rw [ih, hz m (by omega) (by omega), if_neg (by show ¬ nW g n < 0; omega)]
theorem nW_in {g : Int → Int} (hg : ∀ i, gi64 (g i)) (n : Nat) : 0 ≤ nW g n ∧ nW g n < 10000000 := by
  have b := tq_in (big_in hg n).2
  rw [nW_big hg n]
  exact ⟨b.2.2.2.2 (big_in hg n).1, b.2.2.2.1⟩
theorem pS_out {A : Int → Int → Int} {f : Int} (h : ∀ g, A g f = 0) : ∀ (k : Nat) (vis : Int → Bool) (y : Int), pS A k vis y f = 0
  | 0, _, _ => rfl
  | k + 1, vis, y => by
    refine (sumI_congr (g := fun _ => 0) fun z a b => ?_).trans (sumI_zero _)
    by_cases c : vis z = true
    · rw [if_pos c, Int.mul_zero]
    · rw [if_neg c, pS_out h k]
      by_cases e : z = f
      · rw [e, h, Int.zero_mul]
      · rw [if_neg e]; exact Int.mul_zero _
abbrev gP (σ : gH) (p t : Int) : Int → Int := fun f => w64 (pS (AR σ t t) 4 (fun u => decide (u = p)) p f)
theorem k_stateOf {σ0 σ : gH} (hI : Inv σ0) (hq : QC σ0 σ) (g t : Int) (hg : 0 ≤ g ∧ g < σ0 41 11) (hr : σ 110 7 = RULE σ0 g t) (hd : σ 110 8 = DUE σ0 g t) : Mt mX3_stateOf 3 [gR 110, gI g, gI t] σ (rE (gI (STV σ0 g t)) σ) := by
  refine Mt.walk (ls := [gR 110, gI g, gI t, gX 1]) pn_X3 rfl (fun _ _ h => by cases h.1) (Nat.le_of_ble_eq_true rfl) rfl ?_
  have hz0 := hI.f.hz
  refine w_aload_n (pc' := 1) (i := 0) (by rfl) (by rfl) dX3_stateOf_0 rfl ?_
  refine v_getI (pc' := 4) (ji := 7) rfl fg_X3_47 kd_110 dX3_stateOf_1 rfl ?_
  refine w_iconst (pc' := 5) (by decide) dX3_stateOf_4 rfl ?_
  refine w_icmp_ne (pc' := 8) (t := 10) dX3_stateOf_5 rfl rfl (fun c_5 => ?_) (fun c_5 => ?_)
  · skip
    refine w_aload_n (pc' := 11) (i := 0) (by rfl) (by rfl) dX3_stateOf_10 rfl ?_
    refine w_getS (pc' := 14) (q := 41) fg_X3_31 kd_110 sf_X3_4 gr_110_4 dX3_stateOf_11 rfl ?_
    refine w_iload_n (pc' := 15) (i := 1) (by rfl) (by rfl) dX3_stateOf_14 rfl ?_
    refine w_iload_n (pc' := 16) (i := 2) (by rfl) (by rfl) dX3_stateOf_15 rfl ?_
    refine v_callVE (pc' := 19) (st' := [gI (TOLD σ0 g t)]) (d' := 1) (av := [gI g, gI t]) mi_mX2_toldOn lk_X3_68 rfl ci_X2 kd_41 rfl (Nat.le_of_ble_eq_true rfl) (Nat.le_of_ble_eq_true rfl) dX3_stateOf_16 rfl rfl (hmP (F := fun z => gI (TOLD z g t)) (hq.1) (fun _ => rfl) (g_toldOn σ (hm_FA (hq.1) hI.1).1.hz g t (gr_n (hq.1) ⟨by omega, by omega⟩))) ?_
    refine w_istore_n (pc' := 20) (i := 3) (ls' := [gR 110, gI g, gI t, gI (TOLD σ0 g t)]) (by rfl) (by decide) (by rfl) dX3_stateOf_19 rfl ?_
    refine w_iload_n (pc' := 21) (i := 3) (by rfl) (by rfl) dX3_stateOf_20 rfl ?_
    refine w_iconst (pc' := 22) (by decide) dX3_stateOf_21 rfl ?_
    refine w_icmp_eq (pc' := 25) (t := 39) dX3_stateOf_22 rfl rfl (fun c_22 => ?_) (fun c_22 => ?_)
    · skip
      refine w_iload_n (pc' := 40) (i := 2) (by rfl) (by rfl) dX3_stateOf_39 rfl ?_
      refine w_aload_n (pc' := 41) (i := 0) (by rfl) (by rfl) dX3_stateOf_40 rfl ?_
      refine v_getI (pc' := 44) (ji := 8) rfl fg_X3_51 kd_110 dX3_stateOf_41 rfl ?_
      refine w_icmp_gt (pc' := 47) (t := 51) dX3_stateOf_44 rfl rfl (fun c_44 => ?_) (fun c_44 => ?_)
      · skip
        refine w_iconst (pc' := 52) (by decide) dX3_stateOf_51 rfl ?_
        refine v_ireturn rfl dX3_stateOf_52 ?_
        refine ⟨congrArg gI ?_, rfl⟩
        unfold STV
        repeat' split
        all_goals omega
      · skip
        refine w_iconst (pc' := 48) (by decide) dX3_stateOf_47 rfl ?_
        refine w_goto (pc' := 52) dX3_stateOf_48 rfl ?_
        refine v_ireturn rfl dX3_stateOf_52 ?_
        refine ⟨congrArg gI ?_, rfl⟩
        unfold STV
        repeat' split
        all_goals omega
    · skip
      refine w_iload_n (pc' := 26) (i := 3) (by rfl) (by rfl) dX3_stateOf_25 rfl ?_
      refine w_aload_n (pc' := 27) (i := 0) (by rfl) (by rfl) dX3_stateOf_26 rfl ?_
      refine v_getI (pc' := 30) (ji := 8) rfl fg_X3_51 kd_110 dX3_stateOf_27 rfl ?_
      refine w_icmp_gt (pc' := 33) (t := 37) dX3_stateOf_30 rfl rfl (fun c_30 => ?_) (fun c_30 => ?_)
      · skip
        refine w_iconst (pc' := 38) (by decide) dX3_stateOf_37 rfl ?_
        refine v_ireturn rfl dX3_stateOf_38 ?_
        refine ⟨congrArg gI ?_, rfl⟩
        unfold STV
        repeat' split
        all_goals omega
      · skip
        refine w_iconst (pc' := 34) (by decide) dX3_stateOf_33 rfl ?_
        refine w_goto (pc' := 38) dX3_stateOf_34 rfl ?_
        refine v_ireturn rfl dX3_stateOf_38 ?_
        refine ⟨congrArg gI ?_, rfl⟩
        unfold STV
        repeat' split
        all_goals omega
  · skip
    refine w_iconst (pc' := 9) (by decide) dX3_stateOf_8 rfl ?_
    refine v_ireturn rfl dX3_stateOf_9 ?_
    refine ⟨congrArg gI ?_, rfl⟩
    unfold STV
    repeat' split
    all_goals omega
theorem q_stateOf {σ0 σ : gH} (hI : Inv σ0) (hq : QM σ0 σ) (g t : Int) (hg : 0 ≤ g ∧ g < σ0 41 11) (hr : σ 133 87 = RULE σ0 g t) (hd : σ 133 88 = DUE σ0 g t) : Mt mX12_stateOf 3 [gR 133, gI g, gI t] σ (rE (gI (STV σ0 g t)) σ) := by
  refine Mt.walk (ls := [gR 133, gI g, gI t, gX 1]) pn_X12 rfl (fun _ _ h => by cases h.1) (Nat.le_of_ble_eq_true rfl) rfl ?_
  have hz0 := hI.f.hz
  refine w_aload_n (pc' := 1) (i := 0) (by rfl) (by rfl) dX12_stateOf_0 rfl ?_
  refine v_getI (pc' := 4) (ji := 87) rfl fg_X12_522 kd_133 dX12_stateOf_1 rfl ?_
  refine w_iconst (pc' := 5) (by decide) dX12_stateOf_4 rfl ?_
  refine w_icmp_ne (pc' := 8) (t := 10) dX12_stateOf_5 rfl rfl (fun c_5 => ?_) (fun c_5 => ?_)
  · skip
    refine w_aload_n (pc' := 11) (i := 0) (by rfl) (by rfl) dX12_stateOf_10 rfl ?_
    refine w_iload_n (pc' := 12) (i := 1) (by rfl) (by rfl) dX12_stateOf_11 rfl ?_
    refine w_iload_n (pc' := 13) (i := 2) (by rfl) (by rfl) dX12_stateOf_12 rfl ?_
    refine v_callVE (pc' := 16) (st' := [gI (TOLD σ0 g t)]) (d' := 0) (av := [gI g, gI t]) mi_mX12_toldOf lk_X12_531 rfl ci_X12 kd_133 rfl (Nat.le_of_ble_eq_true rfl) (Nat.le_of_ble_eq_true rfl) dX12_stateOf_13 rfl rfl (q_toldOf hI hq g t ⟨by omega, by omega⟩) ?_
    refine w_istore_n (pc' := 17) (i := 3) (ls' := [gR 133, gI g, gI t, gI (TOLD σ0 g t)]) (by rfl) (by decide) (by rfl) dX12_stateOf_16 rfl ?_
    refine w_iload_n (pc' := 18) (i := 3) (by rfl) (by rfl) dX12_stateOf_17 rfl ?_
    refine w_iconst (pc' := 19) (by decide) dX12_stateOf_18 rfl ?_
    refine w_icmp_eq (pc' := 22) (t := 36) dX12_stateOf_19 rfl rfl (fun c_19 => ?_) (fun c_19 => ?_)
    · skip
      refine w_iload_n (pc' := 37) (i := 2) (by rfl) (by rfl) dX12_stateOf_36 rfl ?_
      refine w_aload_n (pc' := 38) (i := 0) (by rfl) (by rfl) dX12_stateOf_37 rfl ?_
      refine v_getI (pc' := 41) (ji := 88) rfl fg_X12_525 kd_133 dX12_stateOf_38 rfl ?_
      refine w_icmp_gt (pc' := 44) (t := 48) dX12_stateOf_41 rfl rfl (fun c_41 => ?_) (fun c_41 => ?_)
      · skip
        refine w_iconst (pc' := 49) (by decide) dX12_stateOf_48 rfl ?_
        refine v_ireturn rfl dX12_stateOf_49 ?_
        refine ⟨congrArg gI ?_, rfl⟩
        unfold STV
        repeat' split
        all_goals omega
      · skip
        refine w_iconst (pc' := 45) (by decide) dX12_stateOf_44 rfl ?_
        refine w_goto (pc' := 49) dX12_stateOf_45 rfl ?_
        refine v_ireturn rfl dX12_stateOf_49 ?_
        refine ⟨congrArg gI ?_, rfl⟩
        unfold STV
        repeat' split
        all_goals omega
    · skip
      refine w_iload_n (pc' := 23) (i := 3) (by rfl) (by rfl) dX12_stateOf_22 rfl ?_
      refine w_aload_n (pc' := 24) (i := 0) (by rfl) (by rfl) dX12_stateOf_23 rfl ?_
      refine v_getI (pc' := 27) (ji := 88) rfl fg_X12_525 kd_133 dX12_stateOf_24 rfl ?_
      refine w_icmp_gt (pc' := 30) (t := 34) dX12_stateOf_27 rfl rfl (fun c_27 => ?_) (fun c_27 => ?_)
      · skip
        refine w_iconst (pc' := 35) (by decide) dX12_stateOf_34 rfl ?_
        refine v_ireturn rfl dX12_stateOf_35 ?_
        refine ⟨congrArg gI ?_, rfl⟩
        unfold STV
        repeat' split
        all_goals omega
      · skip
        refine w_iconst (pc' := 31) (by decide) dX12_stateOf_30 rfl ?_
        refine w_goto (pc' := 35) dX12_stateOf_31 rfl ?_
        refine v_ireturn rfl dX12_stateOf_35 ?_
        refine ⟨congrArg gI ?_, rfl⟩
        unfold STV
        repeat' split
        all_goals omega
  · skip
    refine w_iconst (pc' := 9) (by decide) dX12_stateOf_8 rfl ?_
    refine v_ireturn rfl dX12_stateOf_9 ?_
    refine ⟨congrArg gI ?_, rfl⟩
    unfold STV
    repeat' split
    all_goals omega
set_option maxHeartbeats 4000000 in
theorem k_recordOf {σ0 σ : gH} (hI : Inv σ0) (hq : QC σ0 σ) (p t w : Int) (hw : 0 ≤ w ∧ w ≤ 4) : Mt mX3_recordOf 6 [gR 110, gI p, gI t, gI w] σ (fun v σ' => v = gI (RC σ0 p t w (σ0 41 11).toNat) ∧ QC σ0 σ') := by
  refine Mt.walk (ls := [gR 110, gI p, gI t, gI w, gX 1, gX 1, gX 1]) pn_X3 rfl (fun _ _ h => by cases h.1) (Nat.le_of_ble_eq_true rfl) rfl ?_
  have hz0 := hI.f.hz
  refine w_iconst (pc' := 1) (by decide) dX3_recordOf_0 rfl ?_
  refine w_istore (pc' := 3) (ls' := [gR 110, gI p, gI t, gI w, gI 0, gX 1, gX 1]) (by decide) (by rfl) dX3_recordOf_1 rfl ?_
  refine w_iconst (pc' := 4) (by decide) dX3_recordOf_3 rfl ?_
  refine w_istore (pc' := 6) (ls' := [gR 110, gI p, gI t, gI w, gI 0, gI 0, gX 1]) (by decide) (by rfl) dX3_recordOf_4 rfl ?_
  have hl_6 : ∀ (mm : Nat) (i a : Int) (σv : gH), (σ0 41 11 - i).toNat = mm → (0 ≤ i) → (i ≤ σ0 41 11) → (a = RC σ0 p t w i.toNat) → (QC σ0 σv) → Wp mX3_recordOf 6 (fun v σ' => v = gI (RC σ0 p t w (σ0 41 11).toNat) ∧ QC σ0 σ') σv 6 [gR 110, gI p, gI t, gI w, gI a, gI i, gX 1] [] := by
    intro m_6
    induction m_6 using Nat.strongRecOn with
    | _ m_6 ih_6 =>
      intro i a σv hmeas_6 i0 i1 ha hqv
      have hz0 := hI.f.hz
      have hrc := RC_in hI (p := p) (t := t) (w := w) i0 i1
      have hti := fun h : i < σ0 41 11 => rcT_in hI (p := p) (t := t) (w := w) i0 h
      have hle := fun h : i < σ0 41 11 => LEAST_in hI (t := t) i0 h
      have es := RC_s (σ := σ0) (p := p) (t := t) (w := w) i0
      refine w_iload (pc' := 8) (by rfl) dX3_recordOf_6 rfl ?_
      refine w_aload_n (pc' := 9) (i := 0) (by rfl) (by rfl) dX3_recordOf_8 rfl ?_
      refine w_getS (pc' := 12) (q := 41) fg_X3_31 kd_110 sf_X3_4 gr_110_4 dX3_recordOf_9 rfl ?_
      refine v_callVE (pc' := 15) (st' := [gI (σ0 41 11), gI i]) (d' := 0) (av := []) mi_mX2_total lk_X3_54 rfl ci_X2 kd_41 rfl (Nat.le_of_ble_eq_true rfl) (Nat.le_of_ble_eq_true rfl) dX3_recordOf_12 rfl rfl (hmP (F := fun z => gI (z 41 11)) (hqv.1) (fun _ => rfl) (g_total σv (hm_FA (hqv.1) hI.1).1.hz)) ?_
      refine w_icmp_ge (pc' := 18) (t := 169) dX3_recordOf_15 rfl rfl (fun c_15 => ?_) (fun c_15 => ?_)
      · skip
        refine w_iload (pc' := 171) (by rfl) dX3_recordOf_169 rfl ?_
        refine v_ireturn rfl dX3_recordOf_171 ?_
        exact ⟨by rw [ha, show i = σ0 41 11 by omega], hqv⟩
      · skip
        refine w_aload_n (pc' := 19) (i := 0) (by rfl) (by rfl) dX3_recordOf_18 rfl ?_
        refine w_getS (pc' := 22) (q := 41) fg_X3_31 kd_110 sf_X3_4 gr_110_4 dX3_recordOf_19 rfl ?_
        refine w_iload (pc' := 24) (by rfl) dX3_recordOf_22 rfl ?_
        refine w_iload_n (pc' := 25) (i := 2) (by rfl) (by rfl) dX3_recordOf_24 rfl ?_
        refine v_callVE (pc' := 28) (st' := [gI (gb ((0 ≤ i ∧ i < σ0 41 11) ∧ σ0 49 i ≤ t))]) (d' := 1) (av := [gI i, gI t]) mi_mX2_isKnown lk_X3_60 rfl ci_X2 kd_41 rfl (Nat.le_of_ble_eq_true rfl) (Nat.le_of_ble_eq_true rfl) dX3_recordOf_25 rfl rfl (hmP (F := fun z => gI (gb ((0 ≤ i ∧ i < z 41 11) ∧ z 49 i ≤ t))) (hqv.1) (fun _ => rfl) (g_isKnown σv (hm_FA (hqv.1) hI.1).1.hz i t)) ?_
        refine v_if_eqB (pc' := 31) (t := 163) dX3_recordOf_28 rfl rfl (fun c_28 => ?_) (fun c_28 => ?_)
        · skip
          refine v_iinc (pc' := 166) (x := i) (ls' := [gR 110, gI p, gI t, gI w, gI a, gI (i + 1), gX 1]) (by omega) (by decide) (by rfl) (by rfl) dX3_recordOf_163 rfl ?_
          refine w_goto (pc' := 6) dX3_recordOf_166 rfl ?_
          exact ih_6 _ (by omega) (i + 1) a σv rfl (by omega) (by omega) (by rw [es, ← ha]; unfold rcT; (repeat' split) <;> omega) (by first | exact hqv | exact hq_130)
        · skip
          refine w_aload_n (pc' := 32) (i := 0) (by rfl) (by rfl) dX3_recordOf_31 rfl ?_
          refine w_getS (pc' := 35) (q := 41) fg_X3_31 kd_110 sf_X3_4 gr_110_4 dX3_recordOf_32 rfl ?_
          refine w_iload (pc' := 37) (by rfl) dX3_recordOf_35 rfl ?_
          refine v_callVE (pc' := 40) (st' := [gI (σ0 43 i)]) (d' := 1) (av := [gI i]) mi_mX2_receiver lk_X3_64 rfl ci_X2 kd_41 rfl (Nat.le_of_ble_eq_true rfl) (Nat.le_of_ble_eq_true rfl) dX3_recordOf_37 rfl rfl (hmP (F := fun z => gI (z 43 i)) (hqv.1) (fun _ => rfl) (gi_receiver σv (hm_FA (hqv.1) hI.1).1.hz i (gr_n (hqv.1) ⟨by omega, by omega⟩))) ?_
          refine w_iload_n (pc' := 41) (i := 1) (by rfl) (by rfl) dX3_recordOf_40 rfl ?_
          refine w_icmp_eq (pc' := 44) (t := 47) dX3_recordOf_41 rfl rfl (fun c_41 => ?_) (fun c_41 => ?_)
          · skip
            have hj_66 : Wp mX3_recordOf 6 (fun v σ' => v = gI (RC σ0 p t w (σ0 41 11).toNat) ∧ QC σ0 σ') σv 66 [gR 110, gI p, gI t, gI w, gI a, gI i, gX 1] [gI (gb (TOLD σ0 i t ≠ -1))] := by
              refine w_istore (pc' := 68) (ls' := [gR 110, gI p, gI t, gI w, gI a, gI i, gI (gb (TOLD σ0 i t ≠ -1))]) (by decide) (by rfl) dX3_recordOf_66 rfl ?_
              refine w_iload_n (pc' := 69) (i := 3) (by rfl) (by rfl) dX3_recordOf_68 rfl ?_
              refine w_if_eq (pc' := 72) (t := 82) dX3_recordOf_69 rfl rfl (fun c_69 => ?_) (fun c_69 => ?_)
              · skip
                refine v_iinc (pc' := 85) (x := a) (ls' := [gR 110, gI p, gI t, gI w, gI (a + 1), gI i, gI (gb (TOLD σ0 i t ≠ -1))]) (by omega) (by decide) (by rfl) (by rfl) dX3_recordOf_82 rfl ?_
                refine w_goto (pc' := 163) dX3_recordOf_85 rfl ?_
                refine v_iinc (pc' := 166) (x := i) (ls' := [gR 110, gI p, gI t, gI w, gI (a + 1), gI (i + 1), gI (gb (TOLD σ0 i t ≠ -1))]) (by omega) (by decide) (by rfl) (by rfl) dX3_recordOf_163 rfl ?_
                refine w_goto (pc' := 6) dX3_recordOf_166 rfl ?_
                refine Wp.lose (ls' := [gR 110, gI p, gI t, gI w, gI (a + 1), gI (i + 1), gX 1]) ⟨.inr rfl, ⟨.inr rfl, ⟨.inr rfl, ⟨.inr rfl, ⟨.inr rfl, ⟨.inr rfl, ⟨.inl rfl, trivial⟩⟩⟩⟩⟩⟩⟩ ?_
                exact ih_6 _ (by omega) (i + 1) (a + 1) σv rfl (by omega) (by omega) (by rw [es, ← ha]; unfold rcT; (repeat' split) <;> omega) (by first | exact hqv | exact hq_130)
              · skip
                refine w_iload_n (pc' := 73) (i := 3) (by rfl) (by rfl) dX3_recordOf_72 rfl ?_
                refine w_iconst (pc' := 74) (by decide) dX3_recordOf_73 rfl ?_
                refine w_icmp_ne (pc' := 77) (t := 88) dX3_recordOf_74 rfl rfl (fun c_74 => ?_) (fun c_74 => ?_)
                · skip
                  refine w_iload_n (pc' := 89) (i := 3) (by rfl) (by rfl) dX3_recordOf_88 rfl ?_
                  refine w_iconst (pc' := 90) (by decide) dX3_recordOf_89 rfl ?_
                  refine w_icmp_ne (pc' := 93) (t := 116) dX3_recordOf_90 rfl rfl (fun c_90 => ?_) (fun c_90 => ?_)
                  · skip
                    refine w_iload_n (pc' := 117) (i := 3) (by rfl) (by rfl) dX3_recordOf_116 rfl ?_
                    refine w_iconst (pc' := 118) (by decide) dX3_recordOf_117 rfl ?_
                    refine w_icmp_eq (pc' := 121) (t := 126) dX3_recordOf_118 rfl rfl (fun c_118 => ?_) (fun c_118 => ?_)
                    · skip
                      refine w_aload_n (pc' := 127) (i := 0) (by rfl) (by rfl) dX3_recordOf_126 rfl ?_
                      refine w_iload (pc' := 129) (by rfl) dX3_recordOf_127 rfl ?_
                      refine w_iload_n (pc' := 130) (i := 2) (by rfl) (by rfl) dX3_recordOf_129 rfl ?_
                      refine w_callV (pc' := 133) (d' := 5) (av := [gI i, gI t]) mi_mX3_decide lk_X3_39 rfl ci_X3 kd_110 rfl (Nat.le_of_ble_eq_true rfl) (Nat.le_of_ble_eq_true rfl) dX3_recordOf_130 rfl (k_decide hI hqv i t ⟨by omega, by omega⟩ rfl) (fun v_130 σ130 q_130 => ?_)
                      obtain ⟨rfl, hq_130, hk_130, hr_130, hd_130, _, _⟩ := q_130
                      show Wp _ _ _ _ _ _ []
                      refine w_iload (pc' := 135) (by rfl) dX3_recordOf_133 rfl ?_
                      refine w_aload_n (pc' := 136) (i := 0) (by rfl) (by rfl) dX3_recordOf_135 rfl ?_
                      refine w_iload (pc' := 138) (by rfl) dX3_recordOf_136 rfl ?_
                      refine w_iload_n (pc' := 139) (i := 2) (by rfl) (by rfl) dX3_recordOf_138 rfl ?_
                      refine v_callVE (pc' := 142) (st' := [gI (STV σ0 i t), gI a]) (d' := 3) (av := [gI i, gI t]) mi_mX3_stateOf lk_X3_43 rfl ci_X3 kd_110 rfl (Nat.le_of_ble_eq_true rfl) (Nat.le_of_ble_eq_true rfl) dX3_recordOf_139 rfl rfl (k_stateOf hI hq_130 i t ⟨by omega, by omega⟩ hr_130 hd_130) ?_
                      refine w_iload_n (pc' := 143) (i := 3) (by rfl) (by rfl) dX3_recordOf_142 rfl ?_
                      refine w_iconst (pc' := 144) (by decide) dX3_recordOf_143 rfl ?_
                      refine w_icmp_ne (pc' := 147) (t := 151) dX3_recordOf_144 rfl rfl (fun c_144 => ?_) (fun c_144 => ?_)
                      · skip
                        refine w_iconst (pc' := 152) (by decide) dX3_recordOf_151 rfl ?_
                        refine w_icmp_ne (pc' := 155) (t := 159) dX3_recordOf_152 rfl rfl (fun c_152 => ?_) (fun c_152 => ?_)
                        · skip
                          refine w_iconst (pc' := 160) (by decide) dX3_recordOf_159 rfl ?_
                          refine v_iadd (pc' := 161) (by have := hle (by omega); omega) dX3_recordOf_160 rfl ?_
                          refine w_istore (pc' := 163) (ls' := [gR 110, gI p, gI t, gI w, gI (a + 0), gI i, gI (gb (TOLD σ0 i t ≠ -1))]) (by decide) (by rfl) dX3_recordOf_161 rfl ?_
                          refine v_iinc (pc' := 166) (x := i) (ls' := [gR 110, gI p, gI t, gI w, gI (a + 0), gI (i + 1), gI (gb (TOLD σ0 i t ≠ -1))]) (by omega) (by decide) (by rfl) (by rfl) dX3_recordOf_163 rfl ?_
                          refine w_goto (pc' := 6) dX3_recordOf_166 rfl ?_
                          refine Wp.lose (ls' := [gR 110, gI p, gI t, gI w, gI (a + 0), gI (i + 1), gX 1]) ⟨.inr rfl, ⟨.inr rfl, ⟨.inr rfl, ⟨.inr rfl, ⟨.inr rfl, ⟨.inr rfl, ⟨.inl rfl, trivial⟩⟩⟩⟩⟩⟩⟩ ?_
                          exact ih_6 _ (by omega) (i + 1) (a + 0) σ130 rfl (by omega) (by omega) (by rw [es, ← ha]; unfold rcT; (repeat' split) <;> omega) (by first | exact hqv | exact hq_130)
                        · skip
                          refine w_iconst (pc' := 156) (by decide) dX3_recordOf_155 rfl ?_
                          refine w_goto (pc' := 160) dX3_recordOf_156 rfl ?_
                          refine v_iadd (pc' := 161) (by have := hle (by omega); omega) dX3_recordOf_160 rfl ?_
                          refine w_istore (pc' := 163) (ls' := [gR 110, gI p, gI t, gI w, gI (a + 1), gI i, gI (gb (TOLD σ0 i t ≠ -1))]) (by decide) (by rfl) dX3_recordOf_161 rfl ?_
                          refine v_iinc (pc' := 166) (x := i) (ls' := [gR 110, gI p, gI t, gI w, gI (a + 1), gI (i + 1), gI (gb (TOLD σ0 i t ≠ -1))]) (by omega) (by decide) (by rfl) (by rfl) dX3_recordOf_163 rfl ?_
                          refine w_goto (pc' := 6) dX3_recordOf_166 rfl ?_
                          refine Wp.lose (ls' := [gR 110, gI p, gI t, gI w, gI (a + 1), gI (i + 1), gX 1]) ⟨.inr rfl, ⟨.inr rfl, ⟨.inr rfl, ⟨.inr rfl, ⟨.inr rfl, ⟨.inr rfl, ⟨.inl rfl, trivial⟩⟩⟩⟩⟩⟩⟩ ?_
                          exact ih_6 _ (by omega) (i + 1) (a + 1) σ130 rfl (by omega) (by omega) (by rw [es, ← ha]; unfold rcT; (repeat' split) <;> omega) (by first | exact hqv | exact hq_130)
                      · skip
                        refine w_iconst (pc' := 148) (by decide) dX3_recordOf_147 rfl ?_
                        refine w_goto (pc' := 152) dX3_recordOf_148 rfl ?_
                        refine w_icmp_ne (pc' := 155) (t := 159) dX3_recordOf_152 rfl rfl (fun c_152 => ?_) (fun c_152 => ?_)
                        · skip
                          refine w_iconst (pc' := 160) (by decide) dX3_recordOf_159 rfl ?_
                          refine v_iadd (pc' := 161) (by have := hle (by omega); omega) dX3_recordOf_160 rfl ?_
                          refine w_istore (pc' := 163) (ls' := [gR 110, gI p, gI t, gI w, gI (a + 0), gI i, gI (gb (TOLD σ0 i t ≠ -1))]) (by decide) (by rfl) dX3_recordOf_161 rfl ?_
                          refine v_iinc (pc' := 166) (x := i) (ls' := [gR 110, gI p, gI t, gI w, gI (a + 0), gI (i + 1), gI (gb (TOLD σ0 i t ≠ -1))]) (by omega) (by decide) (by rfl) (by rfl) dX3_recordOf_163 rfl ?_
                          refine w_goto (pc' := 6) dX3_recordOf_166 rfl ?_
                          refine Wp.lose (ls' := [gR 110, gI p, gI t, gI w, gI (a + 0), gI (i + 1), gX 1]) ⟨.inr rfl, ⟨.inr rfl, ⟨.inr rfl, ⟨.inr rfl, ⟨.inr rfl, ⟨.inr rfl, ⟨.inl rfl, trivial⟩⟩⟩⟩⟩⟩⟩ ?_
                          exact ih_6 _ (by omega) (i + 1) (a + 0) σ130 rfl (by omega) (by omega) (by rw [es, ← ha]; unfold rcT; (repeat' split) <;> omega) (by first | exact hqv | exact hq_130)
                        · skip
                          refine w_iconst (pc' := 156) (by decide) dX3_recordOf_155 rfl ?_
                          refine w_goto (pc' := 160) dX3_recordOf_156 rfl ?_
                          refine v_iadd (pc' := 161) (by have := hle (by omega); omega) dX3_recordOf_160 rfl ?_
                          refine w_istore (pc' := 163) (ls' := [gR 110, gI p, gI t, gI w, gI (a + 1), gI i, gI (gb (TOLD σ0 i t ≠ -1))]) (by decide) (by rfl) dX3_recordOf_161 rfl ?_
                          refine v_iinc (pc' := 166) (x := i) (ls' := [gR 110, gI p, gI t, gI w, gI (a + 1), gI (i + 1), gI (gb (TOLD σ0 i t ≠ -1))]) (by omega) (by decide) (by rfl) (by rfl) dX3_recordOf_163 rfl ?_
                          refine w_goto (pc' := 6) dX3_recordOf_166 rfl ?_
                          refine Wp.lose (ls' := [gR 110, gI p, gI t, gI w, gI (a + 1), gI (i + 1), gX 1]) ⟨.inr rfl, ⟨.inr rfl, ⟨.inr rfl, ⟨.inr rfl, ⟨.inr rfl, ⟨.inr rfl, ⟨.inl rfl, trivial⟩⟩⟩⟩⟩⟩⟩ ?_
                          exact ih_6 _ (by omega) (i + 1) (a + 1) σ130 rfl (by omega) (by omega) (by rw [es, ← ha]; unfold rcT; (repeat' split) <;> omega) (by first | exact hqv | exact hq_130)
                    · skip
                      refine w_iload_n (pc' := 122) (i := 3) (by rfl) (by rfl) dX3_recordOf_121 rfl ?_
                      refine w_iconst (pc' := 123) (by decide) dX3_recordOf_122 rfl ?_
                      refine w_icmp_ne (pc' := 126) (t := 163) dX3_recordOf_123 rfl rfl (fun c_123 => ?_) (fun c_123 => ?_)
                      · skip
                        refine v_iinc (pc' := 166) (x := i) (ls' := [gR 110, gI p, gI t, gI w, gI a, gI (i + 1), gI (gb (TOLD σ0 i t ≠ -1))]) (by omega) (by decide) (by rfl) (by rfl) dX3_recordOf_163 rfl ?_
                        refine w_goto (pc' := 6) dX3_recordOf_166 rfl ?_
                        refine Wp.lose (ls' := [gR 110, gI p, gI t, gI w, gI a, gI (i + 1), gX 1]) ⟨.inr rfl, ⟨.inr rfl, ⟨.inr rfl, ⟨.inr rfl, ⟨.inr rfl, ⟨.inr rfl, ⟨.inl rfl, trivial⟩⟩⟩⟩⟩⟩⟩ ?_
                        exact ih_6 _ (by omega) (i + 1) a σv rfl (by omega) (by omega) (by rw [es, ← ha]; unfold rcT; (repeat' split) <;> omega) (by first | exact hqv | exact hq_130)
                      · skip
                        refine w_aload_n (pc' := 127) (i := 0) (by rfl) (by rfl) dX3_recordOf_126 rfl ?_
                        refine w_iload (pc' := 129) (by rfl) dX3_recordOf_127 rfl ?_
                        refine w_iload_n (pc' := 130) (i := 2) (by rfl) (by rfl) dX3_recordOf_129 rfl ?_
                        refine w_callV (pc' := 133) (d' := 5) (av := [gI i, gI t]) mi_mX3_decide lk_X3_39 rfl ci_X3 kd_110 rfl (Nat.le_of_ble_eq_true rfl) (Nat.le_of_ble_eq_true rfl) dX3_recordOf_130 rfl (k_decide hI hqv i t ⟨by omega, by omega⟩ rfl) (fun v_130 σ130 q_130 => ?_)
                        obtain ⟨rfl, hq_130, hk_130, hr_130, hd_130, _, _⟩ := q_130
                        show Wp _ _ _ _ _ _ []
                        refine w_iload (pc' := 135) (by rfl) dX3_recordOf_133 rfl ?_
                        refine w_aload_n (pc' := 136) (i := 0) (by rfl) (by rfl) dX3_recordOf_135 rfl ?_
                        refine w_iload (pc' := 138) (by rfl) dX3_recordOf_136 rfl ?_
                        refine w_iload_n (pc' := 139) (i := 2) (by rfl) (by rfl) dX3_recordOf_138 rfl ?_
                        refine v_callVE (pc' := 142) (st' := [gI (STV σ0 i t), gI a]) (d' := 3) (av := [gI i, gI t]) mi_mX3_stateOf lk_X3_43 rfl ci_X3 kd_110 rfl (Nat.le_of_ble_eq_true rfl) (Nat.le_of_ble_eq_true rfl) dX3_recordOf_139 rfl rfl (k_stateOf hI hq_130 i t ⟨by omega, by omega⟩ hr_130 hd_130) ?_
                        refine w_iload_n (pc' := 143) (i := 3) (by rfl) (by rfl) dX3_recordOf_142 rfl ?_
                        refine w_iconst (pc' := 144) (by decide) dX3_recordOf_143 rfl ?_
                        refine w_icmp_ne (pc' := 147) (t := 151) dX3_recordOf_144 rfl rfl (fun c_144 => ?_) (fun c_144 => ?_)
                        · skip
                          refine w_iconst (pc' := 152) (by decide) dX3_recordOf_151 rfl ?_
                          refine w_icmp_ne (pc' := 155) (t := 159) dX3_recordOf_152 rfl rfl (fun c_152 => ?_) (fun c_152 => ?_)
                          · skip
                            refine w_iconst (pc' := 160) (by decide) dX3_recordOf_159 rfl ?_
                            refine v_iadd (pc' := 161) (by have := hle (by omega); omega) dX3_recordOf_160 rfl ?_
                            refine w_istore (pc' := 163) (ls' := [gR 110, gI p, gI t, gI w, gI (a + 0), gI i, gI (gb (TOLD σ0 i t ≠ -1))]) (by decide) (by rfl) dX3_recordOf_161 rfl ?_
                            refine v_iinc (pc' := 166) (x := i) (ls' := [gR 110, gI p, gI t, gI w, gI (a + 0), gI (i + 1), gI (gb (TOLD σ0 i t ≠ -1))]) (by omega) (by decide) (by rfl) (by rfl) dX3_recordOf_163 rfl ?_
                            refine w_goto (pc' := 6) dX3_recordOf_166 rfl ?_
                            refine Wp.lose (ls' := [gR 110, gI p, gI t, gI w, gI (a + 0), gI (i + 1), gX 1]) ⟨.inr rfl, ⟨.inr rfl, ⟨.inr rfl, ⟨.inr rfl, ⟨.inr rfl, ⟨.inr rfl, ⟨.inl rfl, trivial⟩⟩⟩⟩⟩⟩⟩ ?_
                            exact ih_6 _ (by omega) (i + 1) (a + 0) σ130 rfl (by omega) (by omega) (by rw [es, ← ha]; unfold rcT; (repeat' split) <;> omega) (by first | exact hqv | exact hq_130)
                          · skip
                            refine w_iconst (pc' := 156) (by decide) dX3_recordOf_155 rfl ?_
                            refine w_goto (pc' := 160) dX3_recordOf_156 rfl ?_
                            refine v_iadd (pc' := 161) (by have := hle (by omega); omega) dX3_recordOf_160 rfl ?_
                            refine w_istore (pc' := 163) (ls' := [gR 110, gI p, gI t, gI w, gI (a + 1), gI i, gI (gb (TOLD σ0 i t ≠ -1))]) (by decide) (by rfl) dX3_recordOf_161 rfl ?_
                            refine v_iinc (pc' := 166) (x := i) (ls' := [gR 110, gI p, gI t, gI w, gI (a + 1), gI (i + 1), gI (gb (TOLD σ0 i t ≠ -1))]) (by omega) (by decide) (by rfl) (by rfl) dX3_recordOf_163 rfl ?_
                            refine w_goto (pc' := 6) dX3_recordOf_166 rfl ?_
                            refine Wp.lose (ls' := [gR 110, gI p, gI t, gI w, gI (a + 1), gI (i + 1), gX 1]) ⟨.inr rfl, ⟨.inr rfl, ⟨.inr rfl, ⟨.inr rfl, ⟨.inr rfl, ⟨.inr rfl, ⟨.inl rfl, trivial⟩⟩⟩⟩⟩⟩⟩ ?_
                            exact ih_6 _ (by omega) (i + 1) (a + 1) σ130 rfl (by omega) (by omega) (by rw [es, ← ha]; unfold rcT; (repeat' split) <;> omega) (by first | exact hqv | exact hq_130)
                        · skip
                          refine w_iconst (pc' := 148) (by decide) dX3_recordOf_147 rfl ?_
                          refine w_goto (pc' := 152) dX3_recordOf_148 rfl ?_
                          refine w_icmp_ne (pc' := 155) (t := 159) dX3_recordOf_152 rfl rfl (fun c_152 => ?_) (fun c_152 => ?_)
                          · skip
                            refine w_iconst (pc' := 160) (by decide) dX3_recordOf_159 rfl ?_
                            refine v_iadd (pc' := 161) (by have := hle (by omega); omega) dX3_recordOf_160 rfl ?_
                            refine w_istore (pc' := 163) (ls' := [gR 110, gI p, gI t, gI w, gI (a + 0), gI i, gI (gb (TOLD σ0 i t ≠ -1))]) (by decide) (by rfl) dX3_recordOf_161 rfl ?_
                            refine v_iinc (pc' := 166) (x := i) (ls' := [gR 110, gI p, gI t, gI w, gI (a + 0), gI (i + 1), gI (gb (TOLD σ0 i t ≠ -1))]) (by omega) (by decide) (by rfl) (by rfl) dX3_recordOf_163 rfl ?_
                            refine w_goto (pc' := 6) dX3_recordOf_166 rfl ?_
                            refine Wp.lose (ls' := [gR 110, gI p, gI t, gI w, gI (a + 0), gI (i + 1), gX 1]) ⟨.inr rfl, ⟨.inr rfl, ⟨.inr rfl, ⟨.inr rfl, ⟨.inr rfl, ⟨.inr rfl, ⟨.inl rfl, trivial⟩⟩⟩⟩⟩⟩⟩ ?_
                            exact ih_6 _ (by omega) (i + 1) (a + 0) σ130 rfl (by omega) (by omega) (by rw [es, ← ha]; unfold rcT; (repeat' split) <;> omega) (by first | exact hqv | exact hq_130)
                          · skip
                            refine w_iconst (pc' := 156) (by decide) dX3_recordOf_155 rfl ?_
                            refine w_goto (pc' := 160) dX3_recordOf_156 rfl ?_
                            refine v_iadd (pc' := 161) (by have := hle (by omega); omega) dX3_recordOf_160 rfl ?_
                            refine w_istore (pc' := 163) (ls' := [gR 110, gI p, gI t, gI w, gI (a + 1), gI i, gI (gb (TOLD σ0 i t ≠ -1))]) (by decide) (by rfl) dX3_recordOf_161 rfl ?_
                            refine v_iinc (pc' := 166) (x := i) (ls' := [gR 110, gI p, gI t, gI w, gI (a + 1), gI (i + 1), gI (gb (TOLD σ0 i t ≠ -1))]) (by omega) (by decide) (by rfl) (by rfl) dX3_recordOf_163 rfl ?_
                            refine w_goto (pc' := 6) dX3_recordOf_166 rfl ?_
                            refine Wp.lose (ls' := [gR 110, gI p, gI t, gI w, gI (a + 1), gI (i + 1), gX 1]) ⟨.inr rfl, ⟨.inr rfl, ⟨.inr rfl, ⟨.inr rfl, ⟨.inr rfl, ⟨.inr rfl, ⟨.inl rfl, trivial⟩⟩⟩⟩⟩⟩⟩ ?_
                            exact ih_6 _ (by omega) (i + 1) (a + 1) σ130 rfl (by omega) (by omega) (by rw [es, ← ha]; unfold rcT; (repeat' split) <;> omega) (by first | exact hqv | exact hq_130)
                  · skip
                    refine w_iload (pc' := 95) (by rfl) dX3_recordOf_93 rfl ?_
                    refine v_if_eqB (pc' := 98) (t := 116) dX3_recordOf_95 rfl rfl (fun c_95 => ?_) (fun c_95 => ?_)
                    · skip
                      refine w_iload_n (pc' := 117) (i := 3) (by rfl) (by rfl) dX3_recordOf_116 rfl ?_
                      refine w_iconst (pc' := 118) (by decide) dX3_recordOf_117 rfl ?_
                      refine w_icmp_eq (pc' := 121) (t := 126) dX3_recordOf_118 rfl rfl (fun c_118 => ?_) (fun c_118 => ?_)
                      · skip
                        refine w_aload_n (pc' := 127) (i := 0) (by rfl) (by rfl) dX3_recordOf_126 rfl ?_
                        refine w_iload (pc' := 129) (by rfl) dX3_recordOf_127 rfl ?_
                        refine w_iload_n (pc' := 130) (i := 2) (by rfl) (by rfl) dX3_recordOf_129 rfl ?_
                        refine w_callV (pc' := 133) (d' := 5) (av := [gI i, gI t]) mi_mX3_decide lk_X3_39 rfl ci_X3 kd_110 rfl (Nat.le_of_ble_eq_true rfl) (Nat.le_of_ble_eq_true rfl) dX3_recordOf_130 rfl (k_decide hI hqv i t ⟨by omega, by omega⟩ rfl) (fun v_130 σ130 q_130 => ?_)
                        obtain ⟨rfl, hq_130, hk_130, hr_130, hd_130, _, _⟩ := q_130
                        show Wp _ _ _ _ _ _ []
                        refine w_iload (pc' := 135) (by rfl) dX3_recordOf_133 rfl ?_
                        refine w_aload_n (pc' := 136) (i := 0) (by rfl) (by rfl) dX3_recordOf_135 rfl ?_
                        refine w_iload (pc' := 138) (by rfl) dX3_recordOf_136 rfl ?_
                        refine w_iload_n (pc' := 139) (i := 2) (by rfl) (by rfl) dX3_recordOf_138 rfl ?_
                        refine v_callVE (pc' := 142) (st' := [gI (STV σ0 i t), gI a]) (d' := 3) (av := [gI i, gI t]) mi_mX3_stateOf lk_X3_43 rfl ci_X3 kd_110 rfl (Nat.le_of_ble_eq_true rfl) (Nat.le_of_ble_eq_true rfl) dX3_recordOf_139 rfl rfl (k_stateOf hI hq_130 i t ⟨by omega, by omega⟩ hr_130 hd_130) ?_
                        refine w_iload_n (pc' := 143) (i := 3) (by rfl) (by rfl) dX3_recordOf_142 rfl ?_
                        refine w_iconst (pc' := 144) (by decide) dX3_recordOf_143 rfl ?_
                        refine w_icmp_ne (pc' := 147) (t := 151) dX3_recordOf_144 rfl rfl (fun c_144 => ?_) (fun c_144 => ?_)
                        · skip
                          refine w_iconst (pc' := 152) (by decide) dX3_recordOf_151 rfl ?_
                          refine w_icmp_ne (pc' := 155) (t := 159) dX3_recordOf_152 rfl rfl (fun c_152 => ?_) (fun c_152 => ?_)
                          · skip
                            refine w_iconst (pc' := 160) (by decide) dX3_recordOf_159 rfl ?_
                            refine v_iadd (pc' := 161) (by have := hle (by omega); omega) dX3_recordOf_160 rfl ?_
                            refine w_istore (pc' := 163) (ls' := [gR 110, gI p, gI t, gI w, gI (a + 0), gI i, gI (gb (TOLD σ0 i t ≠ -1))]) (by decide) (by rfl) dX3_recordOf_161 rfl ?_
                            refine v_iinc (pc' := 166) (x := i) (ls' := [gR 110, gI p, gI t, gI w, gI (a + 0), gI (i + 1), gI (gb (TOLD σ0 i t ≠ -1))]) (by omega) (by decide) (by rfl) (by rfl) dX3_recordOf_163 rfl ?_
                            refine w_goto (pc' := 6) dX3_recordOf_166 rfl ?_
                            refine Wp.lose (ls' := [gR 110, gI p, gI t, gI w, gI (a + 0), gI (i + 1), gX 1]) ⟨.inr rfl, ⟨.inr rfl, ⟨.inr rfl, ⟨.inr rfl, ⟨.inr rfl, ⟨.inr rfl, ⟨.inl rfl, trivial⟩⟩⟩⟩⟩⟩⟩ ?_
                            exact ih_6 _ (by omega) (i + 1) (a + 0) σ130 rfl (by omega) (by omega) (by rw [es, ← ha]; unfold rcT; (repeat' split) <;> omega) (by first | exact hqv | exact hq_130)
                          · skip
                            refine w_iconst (pc' := 156) (by decide) dX3_recordOf_155 rfl ?_
                            refine w_goto (pc' := 160) dX3_recordOf_156 rfl ?_
                            refine v_iadd (pc' := 161) (by have := hle (by omega); omega) dX3_recordOf_160 rfl ?_
                            refine w_istore (pc' := 163) (ls' := [gR 110, gI p, gI t, gI w, gI (a + 1), gI i, gI (gb (TOLD σ0 i t ≠ -1))]) (by decide) (by rfl) dX3_recordOf_161 rfl ?_
                            refine v_iinc (pc' := 166) (x := i) (ls' := [gR 110, gI p, gI t, gI w, gI (a + 1), gI (i + 1), gI (gb (TOLD σ0 i t ≠ -1))]) (by omega) (by decide) (by rfl) (by rfl) dX3_recordOf_163 rfl ?_
                            refine w_goto (pc' := 6) dX3_recordOf_166 rfl ?_
                            refine Wp.lose (ls' := [gR 110, gI p, gI t, gI w, gI (a + 1), gI (i + 1), gX 1]) ⟨.inr rfl, ⟨.inr rfl, ⟨.inr rfl, ⟨.inr rfl, ⟨.inr rfl, ⟨.inr rfl, ⟨.inl rfl, trivial⟩⟩⟩⟩⟩⟩⟩ ?_
                            exact ih_6 _ (by omega) (i + 1) (a + 1) σ130 rfl (by omega) (by omega) (by rw [es, ← ha]; unfold rcT; (repeat' split) <;> omega) (by first | exact hqv | exact hq_130)
                        · skip
                          refine w_iconst (pc' := 148) (by decide) dX3_recordOf_147 rfl ?_
                          refine w_goto (pc' := 152) dX3_recordOf_148 rfl ?_
                          refine w_icmp_ne (pc' := 155) (t := 159) dX3_recordOf_152 rfl rfl (fun c_152 => ?_) (fun c_152 => ?_)
                          · skip
                            refine w_iconst (pc' := 160) (by decide) dX3_recordOf_159 rfl ?_
                            refine v_iadd (pc' := 161) (by have := hle (by omega); omega) dX3_recordOf_160 rfl ?_
                            refine w_istore (pc' := 163) (ls' := [gR 110, gI p, gI t, gI w, gI (a + 0), gI i, gI (gb (TOLD σ0 i t ≠ -1))]) (by decide) (by rfl) dX3_recordOf_161 rfl ?_
                            refine v_iinc (pc' := 166) (x := i) (ls' := [gR 110, gI p, gI t, gI w, gI (a + 0), gI (i + 1), gI (gb (TOLD σ0 i t ≠ -1))]) (by omega) (by decide) (by rfl) (by rfl) dX3_recordOf_163 rfl ?_
                            refine w_goto (pc' := 6) dX3_recordOf_166 rfl ?_
                            refine Wp.lose (ls' := [gR 110, gI p, gI t, gI w, gI (a + 0), gI (i + 1), gX 1]) ⟨.inr rfl, ⟨.inr rfl, ⟨.inr rfl, ⟨.inr rfl, ⟨.inr rfl, ⟨.inr rfl, ⟨.inl rfl, trivial⟩⟩⟩⟩⟩⟩⟩ ?_
                            exact ih_6 _ (by omega) (i + 1) (a + 0) σ130 rfl (by omega) (by omega) (by rw [es, ← ha]; unfold rcT; (repeat' split) <;> omega) (by first | exact hqv | exact hq_130)
                          · skip
                            refine w_iconst (pc' := 156) (by decide) dX3_recordOf_155 rfl ?_
                            refine w_goto (pc' := 160) dX3_recordOf_156 rfl ?_
                            refine v_iadd (pc' := 161) (by have := hle (by omega); omega) dX3_recordOf_160 rfl ?_
                            refine w_istore (pc' := 163) (ls' := [gR 110, gI p, gI t, gI w, gI (a + 1), gI i, gI (gb (TOLD σ0 i t ≠ -1))]) (by decide) (by rfl) dX3_recordOf_161 rfl ?_
                            refine v_iinc (pc' := 166) (x := i) (ls' := [gR 110, gI p, gI t, gI w, gI (a + 1), gI (i + 1), gI (gb (TOLD σ0 i t ≠ -1))]) (by omega) (by decide) (by rfl) (by rfl) dX3_recordOf_163 rfl ?_
                            refine w_goto (pc' := 6) dX3_recordOf_166 rfl ?_
                            refine Wp.lose (ls' := [gR 110, gI p, gI t, gI w, gI (a + 1), gI (i + 1), gX 1]) ⟨.inr rfl, ⟨.inr rfl, ⟨.inr rfl, ⟨.inr rfl, ⟨.inr rfl, ⟨.inr rfl, ⟨.inl rfl, trivial⟩⟩⟩⟩⟩⟩⟩ ?_
                            exact ih_6 _ (by omega) (i + 1) (a + 1) σ130 rfl (by omega) (by omega) (by rw [es, ← ha]; unfold rcT; (repeat' split) <;> omega) (by first | exact hqv | exact hq_130)
                      · skip
                        refine w_iload_n (pc' := 122) (i := 3) (by rfl) (by rfl) dX3_recordOf_121 rfl ?_
                        refine w_iconst (pc' := 123) (by decide) dX3_recordOf_122 rfl ?_
                        refine w_icmp_ne (pc' := 126) (t := 163) dX3_recordOf_123 rfl rfl (fun c_123 => ?_) (fun c_123 => ?_)
                        · skip
                          refine v_iinc (pc' := 166) (x := i) (ls' := [gR 110, gI p, gI t, gI w, gI a, gI (i + 1), gI (gb (TOLD σ0 i t ≠ -1))]) (by omega) (by decide) (by rfl) (by rfl) dX3_recordOf_163 rfl ?_
                          refine w_goto (pc' := 6) dX3_recordOf_166 rfl ?_
                          refine Wp.lose (ls' := [gR 110, gI p, gI t, gI w, gI a, gI (i + 1), gX 1]) ⟨.inr rfl, ⟨.inr rfl, ⟨.inr rfl, ⟨.inr rfl, ⟨.inr rfl, ⟨.inr rfl, ⟨.inl rfl, trivial⟩⟩⟩⟩⟩⟩⟩ ?_
                          exact ih_6 _ (by omega) (i + 1) a σv rfl (by omega) (by omega) (by rw [es, ← ha]; unfold rcT; (repeat' split) <;> omega) (by first | exact hqv | exact hq_130)
                        · skip
                          refine w_aload_n (pc' := 127) (i := 0) (by rfl) (by rfl) dX3_recordOf_126 rfl ?_
                          refine w_iload (pc' := 129) (by rfl) dX3_recordOf_127 rfl ?_
                          refine w_iload_n (pc' := 130) (i := 2) (by rfl) (by rfl) dX3_recordOf_129 rfl ?_
                          refine w_callV (pc' := 133) (d' := 5) (av := [gI i, gI t]) mi_mX3_decide lk_X3_39 rfl ci_X3 kd_110 rfl (Nat.le_of_ble_eq_true rfl) (Nat.le_of_ble_eq_true rfl) dX3_recordOf_130 rfl (k_decide hI hqv i t ⟨by omega, by omega⟩ rfl) (fun v_130 σ130 q_130 => ?_)
                          obtain ⟨rfl, hq_130, hk_130, hr_130, hd_130, _, _⟩ := q_130
                          show Wp _ _ _ _ _ _ []
                          refine w_iload (pc' := 135) (by rfl) dX3_recordOf_133 rfl ?_
                          refine w_aload_n (pc' := 136) (i := 0) (by rfl) (by rfl) dX3_recordOf_135 rfl ?_
                          refine w_iload (pc' := 138) (by rfl) dX3_recordOf_136 rfl ?_
                          refine w_iload_n (pc' := 139) (i := 2) (by rfl) (by rfl) dX3_recordOf_138 rfl ?_
                          refine v_callVE (pc' := 142) (st' := [gI (STV σ0 i t), gI a]) (d' := 3) (av := [gI i, gI t]) mi_mX3_stateOf lk_X3_43 rfl ci_X3 kd_110 rfl (Nat.le_of_ble_eq_true rfl) (Nat.le_of_ble_eq_true rfl) dX3_recordOf_139 rfl rfl (k_stateOf hI hq_130 i t ⟨by omega, by omega⟩ hr_130 hd_130) ?_
                          refine w_iload_n (pc' := 143) (i := 3) (by rfl) (by rfl) dX3_recordOf_142 rfl ?_
                          refine w_iconst (pc' := 144) (by decide) dX3_recordOf_143 rfl ?_
                          refine w_icmp_ne (pc' := 147) (t := 151) dX3_recordOf_144 rfl rfl (fun c_144 => ?_) (fun c_144 => ?_)
                          · skip
                            refine w_iconst (pc' := 152) (by decide) dX3_recordOf_151 rfl ?_
                            refine w_icmp_ne (pc' := 155) (t := 159) dX3_recordOf_152 rfl rfl (fun c_152 => ?_) (fun c_152 => ?_)
                            · skip
                              refine w_iconst (pc' := 160) (by decide) dX3_recordOf_159 rfl ?_
                              refine v_iadd (pc' := 161) (by have := hle (by omega); omega) dX3_recordOf_160 rfl ?_
                              refine w_istore (pc' := 163) (ls' := [gR 110, gI p, gI t, gI w, gI (a + 0), gI i, gI (gb (TOLD σ0 i t ≠ -1))]) (by decide) (by rfl) dX3_recordOf_161 rfl ?_
                              refine v_iinc (pc' := 166) (x := i) (ls' := [gR 110, gI p, gI t, gI w, gI (a + 0), gI (i + 1), gI (gb (TOLD σ0 i t ≠ -1))]) (by omega) (by decide) (by rfl) (by rfl) dX3_recordOf_163 rfl ?_
                              refine w_goto (pc' := 6) dX3_recordOf_166 rfl ?_
                              refine Wp.lose (ls' := [gR 110, gI p, gI t, gI w, gI (a + 0), gI (i + 1), gX 1]) ⟨.inr rfl, ⟨.inr rfl, ⟨.inr rfl, ⟨.inr rfl, ⟨.inr rfl, ⟨.inr rfl, ⟨.inl rfl, trivial⟩⟩⟩⟩⟩⟩⟩ ?_
                              exact ih_6 _ (by omega) (i + 1) (a + 0) σ130 rfl (by omega) (by omega) (by rw [es, ← ha]; unfold rcT; (repeat' split) <;> omega) (by first | exact hqv | exact hq_130)
                            · skip
                              refine w_iconst (pc' := 156) (by decide) dX3_recordOf_155 rfl ?_
                              refine w_goto (pc' := 160) dX3_recordOf_156 rfl ?_
                              refine v_iadd (pc' := 161) (by have := hle (by omega); omega) dX3_recordOf_160 rfl ?_
                              refine w_istore (pc' := 163) (ls' := [gR 110, gI p, gI t, gI w, gI (a + 1), gI i, gI (gb (TOLD σ0 i t ≠ -1))]) (by decide) (by rfl) dX3_recordOf_161 rfl ?_
                              refine v_iinc (pc' := 166) (x := i) (ls' := [gR 110, gI p, gI t, gI w, gI (a + 1), gI (i + 1), gI (gb (TOLD σ0 i t ≠ -1))]) (by omega) (by decide) (by rfl) (by rfl) dX3_recordOf_163 rfl ?_
                              refine w_goto (pc' := 6) dX3_recordOf_166 rfl ?_
                              refine Wp.lose (ls' := [gR 110, gI p, gI t, gI w, gI (a + 1), gI (i + 1), gX 1]) ⟨.inr rfl, ⟨.inr rfl, ⟨.inr rfl, ⟨.inr rfl, ⟨.inr rfl, ⟨.inr rfl, ⟨.inl rfl, trivial⟩⟩⟩⟩⟩⟩⟩ ?_
                              exact ih_6 _ (by omega) (i + 1) (a + 1) σ130 rfl (by omega) (by omega) (by rw [es, ← ha]; unfold rcT; (repeat' split) <;> omega) (by first | exact hqv | exact hq_130)
                          · skip
                            refine w_iconst (pc' := 148) (by decide) dX3_recordOf_147 rfl ?_
                            refine w_goto (pc' := 152) dX3_recordOf_148 rfl ?_
                            refine w_icmp_ne (pc' := 155) (t := 159) dX3_recordOf_152 rfl rfl (fun c_152 => ?_) (fun c_152 => ?_)
                            · skip
                              refine w_iconst (pc' := 160) (by decide) dX3_recordOf_159 rfl ?_
                              refine v_iadd (pc' := 161) (by have := hle (by omega); omega) dX3_recordOf_160 rfl ?_
                              refine w_istore (pc' := 163) (ls' := [gR 110, gI p, gI t, gI w, gI (a + 0), gI i, gI (gb (TOLD σ0 i t ≠ -1))]) (by decide) (by rfl) dX3_recordOf_161 rfl ?_
                              refine v_iinc (pc' := 166) (x := i) (ls' := [gR 110, gI p, gI t, gI w, gI (a + 0), gI (i + 1), gI (gb (TOLD σ0 i t ≠ -1))]) (by omega) (by decide) (by rfl) (by rfl) dX3_recordOf_163 rfl ?_
                              refine w_goto (pc' := 6) dX3_recordOf_166 rfl ?_
                              refine Wp.lose (ls' := [gR 110, gI p, gI t, gI w, gI (a + 0), gI (i + 1), gX 1]) ⟨.inr rfl, ⟨.inr rfl, ⟨.inr rfl, ⟨.inr rfl, ⟨.inr rfl, ⟨.inr rfl, ⟨.inl rfl, trivial⟩⟩⟩⟩⟩⟩⟩ ?_
                              exact ih_6 _ (by omega) (i + 1) (a + 0) σ130 rfl (by omega) (by omega) (by rw [es, ← ha]; unfold rcT; (repeat' split) <;> omega) (by first | exact hqv | exact hq_130)
                            · skip
                              refine w_iconst (pc' := 156) (by decide) dX3_recordOf_155 rfl ?_
                              refine w_goto (pc' := 160) dX3_recordOf_156 rfl ?_
                              refine v_iadd (pc' := 161) (by have := hle (by omega); omega) dX3_recordOf_160 rfl ?_
                              refine w_istore (pc' := 163) (ls' := [gR 110, gI p, gI t, gI w, gI (a + 1), gI i, gI (gb (TOLD σ0 i t ≠ -1))]) (by decide) (by rfl) dX3_recordOf_161 rfl ?_
                              refine v_iinc (pc' := 166) (x := i) (ls' := [gR 110, gI p, gI t, gI w, gI (a + 1), gI (i + 1), gI (gb (TOLD σ0 i t ≠ -1))]) (by omega) (by decide) (by rfl) (by rfl) dX3_recordOf_163 rfl ?_
                              refine w_goto (pc' := 6) dX3_recordOf_166 rfl ?_
                              refine Wp.lose (ls' := [gR 110, gI p, gI t, gI w, gI (a + 1), gI (i + 1), gX 1]) ⟨.inr rfl, ⟨.inr rfl, ⟨.inr rfl, ⟨.inr rfl, ⟨.inr rfl, ⟨.inr rfl, ⟨.inl rfl, trivial⟩⟩⟩⟩⟩⟩⟩ ?_
                              exact ih_6 _ (by omega) (i + 1) (a + 1) σ130 rfl (by omega) (by omega) (by rw [es, ← ha]; unfold rcT; (repeat' split) <;> omega) (by first | exact hqv | exact hq_130)
                    · skip
                      refine w_iload (pc' := 100) (by rfl) dX3_recordOf_98 rfl ?_
                      refine w_aload_n (pc' := 101) (i := 0) (by rfl) (by rfl) dX3_recordOf_100 rfl ?_
                      refine w_getS (pc' := 104) (q := 41) fg_X3_31 kd_110 sf_X3_4 gr_110_4 dX3_recordOf_101 rfl ?_
                      refine w_iload (pc' := 106) (by rfl) dX3_recordOf_104 rfl ?_
                      refine w_iload_n (pc' := 107) (i := 2) (by rfl) (by rfl) dX3_recordOf_106 rfl ?_
                      refine v_callVE (pc' := 110) (st' := [gI (LEAST σ0 i t), gI a]) (d' := 2) (av := [gI i, gI t]) mi_mX2_leastOf lk_X3_71 rfl ci_X2 kd_41 rfl (Nat.le_of_ble_eq_true rfl) (Nat.le_of_ble_eq_true rfl) dX3_recordOf_107 rfl rfl (hmP (F := fun z => gI (LEAST z i t)) (hqv.1) (fun _ => rfl) (g_leastOf σv (hm_FA (hqv.1) hI.1).1.hz i t (gr_n (hqv.1) ⟨by omega, by omega⟩))) ?_
                      refine v_iadd (pc' := 111) (by have := hle (by omega); omega) dX3_recordOf_110 rfl ?_
                      refine w_istore (pc' := 113) (ls' := [gR 110, gI p, gI t, gI w, gI (a + (LEAST σ0 i t)), gI i, gI (gb (TOLD σ0 i t ≠ -1))]) (by decide) (by rfl) dX3_recordOf_111 rfl ?_
                      refine w_goto (pc' := 163) dX3_recordOf_113 rfl ?_
                      refine v_iinc (pc' := 166) (x := i) (ls' := [gR 110, gI p, gI t, gI w, gI (a + (LEAST σ0 i t)), gI (i + 1), gI (gb (TOLD σ0 i t ≠ -1))]) (by omega) (by decide) (by rfl) (by rfl) dX3_recordOf_163 rfl ?_
                      refine w_goto (pc' := 6) dX3_recordOf_166 rfl ?_
                      refine Wp.lose (ls' := [gR 110, gI p, gI t, gI w, gI (a + (LEAST σ0 i t)), gI (i + 1), gX 1]) ⟨.inr rfl, ⟨.inr rfl, ⟨.inr rfl, ⟨.inr rfl, ⟨.inr rfl, ⟨.inr rfl, ⟨.inl rfl, trivial⟩⟩⟩⟩⟩⟩⟩ ?_
                      exact ih_6 _ (by omega) (i + 1) (a + (LEAST σ0 i t)) σv rfl (by omega) (by omega) (by rw [es, ← ha]; unfold rcT; (repeat' split) <;> omega) (by first | exact hqv | exact hq_130)
                · skip
                  refine w_iload (pc' := 79) (by rfl) dX3_recordOf_77 rfl ?_
                  refine v_if_eqB (pc' := 82) (t := 88) dX3_recordOf_79 rfl rfl (fun c_79 => ?_) (fun c_79 => ?_)
                  · skip
                    refine w_iload_n (pc' := 89) (i := 3) (by rfl) (by rfl) dX3_recordOf_88 rfl ?_
                    refine w_iconst (pc' := 90) (by decide) dX3_recordOf_89 rfl ?_
                    refine w_icmp_ne (pc' := 93) (t := 116) dX3_recordOf_90 rfl rfl (fun c_90 => ?_) (fun c_90 => ?_)
                    · skip
                      refine w_iload_n (pc' := 117) (i := 3) (by rfl) (by rfl) dX3_recordOf_116 rfl ?_
                      refine w_iconst (pc' := 118) (by decide) dX3_recordOf_117 rfl ?_
                      refine w_icmp_eq (pc' := 121) (t := 126) dX3_recordOf_118 rfl rfl (fun c_118 => ?_) (fun c_118 => ?_)
                      · skip
                        refine w_aload_n (pc' := 127) (i := 0) (by rfl) (by rfl) dX3_recordOf_126 rfl ?_
                        refine w_iload (pc' := 129) (by rfl) dX3_recordOf_127 rfl ?_
                        refine w_iload_n (pc' := 130) (i := 2) (by rfl) (by rfl) dX3_recordOf_129 rfl ?_
                        refine w_callV (pc' := 133) (d' := 5) (av := [gI i, gI t]) mi_mX3_decide lk_X3_39 rfl ci_X3 kd_110 rfl (Nat.le_of_ble_eq_true rfl) (Nat.le_of_ble_eq_true rfl) dX3_recordOf_130 rfl (k_decide hI hqv i t ⟨by omega, by omega⟩ rfl) (fun v_130 σ130 q_130 => ?_)
                        obtain ⟨rfl, hq_130, hk_130, hr_130, hd_130, _, _⟩ := q_130
                        show Wp _ _ _ _ _ _ []
                        refine w_iload (pc' := 135) (by rfl) dX3_recordOf_133 rfl ?_
                        refine w_aload_n (pc' := 136) (i := 0) (by rfl) (by rfl) dX3_recordOf_135 rfl ?_
                        refine w_iload (pc' := 138) (by rfl) dX3_recordOf_136 rfl ?_
                        refine w_iload_n (pc' := 139) (i := 2) (by rfl) (by rfl) dX3_recordOf_138 rfl ?_
                        refine v_callVE (pc' := 142) (st' := [gI (STV σ0 i t), gI a]) (d' := 3) (av := [gI i, gI t]) mi_mX3_stateOf lk_X3_43 rfl ci_X3 kd_110 rfl (Nat.le_of_ble_eq_true rfl) (Nat.le_of_ble_eq_true rfl) dX3_recordOf_139 rfl rfl (k_stateOf hI hq_130 i t ⟨by omega, by omega⟩ hr_130 hd_130) ?_
                        refine w_iload_n (pc' := 143) (i := 3) (by rfl) (by rfl) dX3_recordOf_142 rfl ?_
                        refine w_iconst (pc' := 144) (by decide) dX3_recordOf_143 rfl ?_
                        refine w_icmp_ne (pc' := 147) (t := 151) dX3_recordOf_144 rfl rfl (fun c_144 => ?_) (fun c_144 => ?_)
                        · skip
                          refine w_iconst (pc' := 152) (by decide) dX3_recordOf_151 rfl ?_
                          refine w_icmp_ne (pc' := 155) (t := 159) dX3_recordOf_152 rfl rfl (fun c_152 => ?_) (fun c_152 => ?_)
                          · skip
                            refine w_iconst (pc' := 160) (by decide) dX3_recordOf_159 rfl ?_
                            refine v_iadd (pc' := 161) (by have := hle (by omega); omega) dX3_recordOf_160 rfl ?_
                            refine w_istore (pc' := 163) (ls' := [gR 110, gI p, gI t, gI w, gI (a + 0), gI i, gI (gb (TOLD σ0 i t ≠ -1))]) (by decide) (by rfl) dX3_recordOf_161 rfl ?_
                            refine v_iinc (pc' := 166) (x := i) (ls' := [gR 110, gI p, gI t, gI w, gI (a + 0), gI (i + 1), gI (gb (TOLD σ0 i t ≠ -1))]) (by omega) (by decide) (by rfl) (by rfl) dX3_recordOf_163 rfl ?_
                            refine w_goto (pc' := 6) dX3_recordOf_166 rfl ?_
                            refine Wp.lose (ls' := [gR 110, gI p, gI t, gI w, gI (a + 0), gI (i + 1), gX 1]) ⟨.inr rfl, ⟨.inr rfl, ⟨.inr rfl, ⟨.inr rfl, ⟨.inr rfl, ⟨.inr rfl, ⟨.inl rfl, trivial⟩⟩⟩⟩⟩⟩⟩ ?_
                            exact ih_6 _ (by omega) (i + 1) (a + 0) σ130 rfl (by omega) (by omega) (by rw [es, ← ha]; unfold rcT; (repeat' split) <;> omega) (by first | exact hqv | exact hq_130)
                          · skip
                            refine w_iconst (pc' := 156) (by decide) dX3_recordOf_155 rfl ?_
                            refine w_goto (pc' := 160) dX3_recordOf_156 rfl ?_
                            refine v_iadd (pc' := 161) (by have := hle (by omega); omega) dX3_recordOf_160 rfl ?_
                            refine w_istore (pc' := 163) (ls' := [gR 110, gI p, gI t, gI w, gI (a + 1), gI i, gI (gb (TOLD σ0 i t ≠ -1))]) (by decide) (by rfl) dX3_recordOf_161 rfl ?_
                            refine v_iinc (pc' := 166) (x := i) (ls' := [gR 110, gI p, gI t, gI w, gI (a + 1), gI (i + 1), gI (gb (TOLD σ0 i t ≠ -1))]) (by omega) (by decide) (by rfl) (by rfl) dX3_recordOf_163 rfl ?_
                            refine w_goto (pc' := 6) dX3_recordOf_166 rfl ?_
                            refine Wp.lose (ls' := [gR 110, gI p, gI t, gI w, gI (a + 1), gI (i + 1), gX 1]) ⟨.inr rfl, ⟨.inr rfl, ⟨.inr rfl, ⟨.inr rfl, ⟨.inr rfl, ⟨.inr rfl, ⟨.inl rfl, trivial⟩⟩⟩⟩⟩⟩⟩ ?_
                            exact ih_6 _ (by omega) (i + 1) (a + 1) σ130 rfl (by omega) (by omega) (by rw [es, ← ha]; unfold rcT; (repeat' split) <;> omega) (by first | exact hqv | exact hq_130)
                        · skip
                          refine w_iconst (pc' := 148) (by decide) dX3_recordOf_147 rfl ?_
                          refine w_goto (pc' := 152) dX3_recordOf_148 rfl ?_
                          refine w_icmp_ne (pc' := 155) (t := 159) dX3_recordOf_152 rfl rfl (fun c_152 => ?_) (fun c_152 => ?_)
                          · skip
                            refine w_iconst (pc' := 160) (by decide) dX3_recordOf_159 rfl ?_
                            refine v_iadd (pc' := 161) (by have := hle (by omega); omega) dX3_recordOf_160 rfl ?_
                            refine w_istore (pc' := 163) (ls' := [gR 110, gI p, gI t, gI w, gI (a + 0), gI i, gI (gb (TOLD σ0 i t ≠ -1))]) (by decide) (by rfl) dX3_recordOf_161 rfl ?_
                            refine v_iinc (pc' := 166) (x := i) (ls' := [gR 110, gI p, gI t, gI w, gI (a + 0), gI (i + 1), gI (gb (TOLD σ0 i t ≠ -1))]) (by omega) (by decide) (by rfl) (by rfl) dX3_recordOf_163 rfl ?_
                            refine w_goto (pc' := 6) dX3_recordOf_166 rfl ?_
                            refine Wp.lose (ls' := [gR 110, gI p, gI t, gI w, gI (a + 0), gI (i + 1), gX 1]) ⟨.inr rfl, ⟨.inr rfl, ⟨.inr rfl, ⟨.inr rfl, ⟨.inr rfl, ⟨.inr rfl, ⟨.inl rfl, trivial⟩⟩⟩⟩⟩⟩⟩ ?_
                            exact ih_6 _ (by omega) (i + 1) (a + 0) σ130 rfl (by omega) (by omega) (by rw [es, ← ha]; unfold rcT; (repeat' split) <;> omega) (by first | exact hqv | exact hq_130)
                          · skip
                            refine w_iconst (pc' := 156) (by decide) dX3_recordOf_155 rfl ?_
                            refine w_goto (pc' := 160) dX3_recordOf_156 rfl ?_
                            refine v_iadd (pc' := 161) (by have := hle (by omega); omega) dX3_recordOf_160 rfl ?_
                            refine w_istore (pc' := 163) (ls' := [gR 110, gI p, gI t, gI w, gI (a + 1), gI i, gI (gb (TOLD σ0 i t ≠ -1))]) (by decide) (by rfl) dX3_recordOf_161 rfl ?_
                            refine v_iinc (pc' := 166) (x := i) (ls' := [gR 110, gI p, gI t, gI w, gI (a + 1), gI (i + 1), gI (gb (TOLD σ0 i t ≠ -1))]) (by omega) (by decide) (by rfl) (by rfl) dX3_recordOf_163 rfl ?_
                            refine w_goto (pc' := 6) dX3_recordOf_166 rfl ?_
                            refine Wp.lose (ls' := [gR 110, gI p, gI t, gI w, gI (a + 1), gI (i + 1), gX 1]) ⟨.inr rfl, ⟨.inr rfl, ⟨.inr rfl, ⟨.inr rfl, ⟨.inr rfl, ⟨.inr rfl, ⟨.inl rfl, trivial⟩⟩⟩⟩⟩⟩⟩ ?_
                            exact ih_6 _ (by omega) (i + 1) (a + 1) σ130 rfl (by omega) (by omega) (by rw [es, ← ha]; unfold rcT; (repeat' split) <;> omega) (by first | exact hqv | exact hq_130)
                      · skip
                        refine w_iload_n (pc' := 122) (i := 3) (by rfl) (by rfl) dX3_recordOf_121 rfl ?_
                        refine w_iconst (pc' := 123) (by decide) dX3_recordOf_122 rfl ?_
                        refine w_icmp_ne (pc' := 126) (t := 163) dX3_recordOf_123 rfl rfl (fun c_123 => ?_) (fun c_123 => ?_)
                        · skip
                          refine v_iinc (pc' := 166) (x := i) (ls' := [gR 110, gI p, gI t, gI w, gI a, gI (i + 1), gI (gb (TOLD σ0 i t ≠ -1))]) (by omega) (by decide) (by rfl) (by rfl) dX3_recordOf_163 rfl ?_
                          refine w_goto (pc' := 6) dX3_recordOf_166 rfl ?_
                          refine Wp.lose (ls' := [gR 110, gI p, gI t, gI w, gI a, gI (i + 1), gX 1]) ⟨.inr rfl, ⟨.inr rfl, ⟨.inr rfl, ⟨.inr rfl, ⟨.inr rfl, ⟨.inr rfl, ⟨.inl rfl, trivial⟩⟩⟩⟩⟩⟩⟩ ?_
                          exact ih_6 _ (by omega) (i + 1) a σv rfl (by omega) (by omega) (by rw [es, ← ha]; unfold rcT; (repeat' split) <;> omega) (by first | exact hqv | exact hq_130)
                        · skip
                          refine w_aload_n (pc' := 127) (i := 0) (by rfl) (by rfl) dX3_recordOf_126 rfl ?_
                          refine w_iload (pc' := 129) (by rfl) dX3_recordOf_127 rfl ?_
                          refine w_iload_n (pc' := 130) (i := 2) (by rfl) (by rfl) dX3_recordOf_129 rfl ?_
                          refine w_callV (pc' := 133) (d' := 5) (av := [gI i, gI t]) mi_mX3_decide lk_X3_39 rfl ci_X3 kd_110 rfl (Nat.le_of_ble_eq_true rfl) (Nat.le_of_ble_eq_true rfl) dX3_recordOf_130 rfl (k_decide hI hqv i t ⟨by omega, by omega⟩ rfl) (fun v_130 σ130 q_130 => ?_)
                          obtain ⟨rfl, hq_130, hk_130, hr_130, hd_130, _, _⟩ := q_130
                          show Wp _ _ _ _ _ _ []
                          refine w_iload (pc' := 135) (by rfl) dX3_recordOf_133 rfl ?_
                          refine w_aload_n (pc' := 136) (i := 0) (by rfl) (by rfl) dX3_recordOf_135 rfl ?_
                          refine w_iload (pc' := 138) (by rfl) dX3_recordOf_136 rfl ?_
                          refine w_iload_n (pc' := 139) (i := 2) (by rfl) (by rfl) dX3_recordOf_138 rfl ?_
                          refine v_callVE (pc' := 142) (st' := [gI (STV σ0 i t), gI a]) (d' := 3) (av := [gI i, gI t]) mi_mX3_stateOf lk_X3_43 rfl ci_X3 kd_110 rfl (Nat.le_of_ble_eq_true rfl) (Nat.le_of_ble_eq_true rfl) dX3_recordOf_139 rfl rfl (k_stateOf hI hq_130 i t ⟨by omega, by omega⟩ hr_130 hd_130) ?_
                          refine w_iload_n (pc' := 143) (i := 3) (by rfl) (by rfl) dX3_recordOf_142 rfl ?_
                          refine w_iconst (pc' := 144) (by decide) dX3_recordOf_143 rfl ?_
                          refine w_icmp_ne (pc' := 147) (t := 151) dX3_recordOf_144 rfl rfl (fun c_144 => ?_) (fun c_144 => ?_)
                          · skip
                            refine w_iconst (pc' := 152) (by decide) dX3_recordOf_151 rfl ?_
                            refine w_icmp_ne (pc' := 155) (t := 159) dX3_recordOf_152 rfl rfl (fun c_152 => ?_) (fun c_152 => ?_)
                            · skip
                              refine w_iconst (pc' := 160) (by decide) dX3_recordOf_159 rfl ?_
                              refine v_iadd (pc' := 161) (by have := hle (by omega); omega) dX3_recordOf_160 rfl ?_
                              refine w_istore (pc' := 163) (ls' := [gR 110, gI p, gI t, gI w, gI (a + 0), gI i, gI (gb (TOLD σ0 i t ≠ -1))]) (by decide) (by rfl) dX3_recordOf_161 rfl ?_
                              refine v_iinc (pc' := 166) (x := i) (ls' := [gR 110, gI p, gI t, gI w, gI (a + 0), gI (i + 1), gI (gb (TOLD σ0 i t ≠ -1))]) (by omega) (by decide) (by rfl) (by rfl) dX3_recordOf_163 rfl ?_
                              refine w_goto (pc' := 6) dX3_recordOf_166 rfl ?_
                              refine Wp.lose (ls' := [gR 110, gI p, gI t, gI w, gI (a + 0), gI (i + 1), gX 1]) ⟨.inr rfl, ⟨.inr rfl, ⟨.inr rfl, ⟨.inr rfl, ⟨.inr rfl, ⟨.inr rfl, ⟨.inl rfl, trivial⟩⟩⟩⟩⟩⟩⟩ ?_
                              exact ih_6 _ (by omega) (i + 1) (a + 0) σ130 rfl (by omega) (by omega) (by rw [es, ← ha]; unfold rcT; (repeat' split) <;> omega) (by first | exact hqv | exact hq_130)
                            · skip
                              refine w_iconst (pc' := 156) (by decide) dX3_recordOf_155 rfl ?_
                              refine w_goto (pc' := 160) dX3_recordOf_156 rfl ?_
                              refine v_iadd (pc' := 161) (by have := hle (by omega); omega) dX3_recordOf_160 rfl ?_
                              refine w_istore (pc' := 163) (ls' := [gR 110, gI p, gI t, gI w, gI (a + 1), gI i, gI (gb (TOLD σ0 i t ≠ -1))]) (by decide) (by rfl) dX3_recordOf_161 rfl ?_
                              refine v_iinc (pc' := 166) (x := i) (ls' := [gR 110, gI p, gI t, gI w, gI (a + 1), gI (i + 1), gI (gb (TOLD σ0 i t ≠ -1))]) (by omega) (by decide) (by rfl) (by rfl) dX3_recordOf_163 rfl ?_
                              refine w_goto (pc' := 6) dX3_recordOf_166 rfl ?_
                              refine Wp.lose (ls' := [gR 110, gI p, gI t, gI w, gI (a + 1), gI (i + 1), gX 1]) ⟨.inr rfl, ⟨.inr rfl, ⟨.inr rfl, ⟨.inr rfl, ⟨.inr rfl, ⟨.inr rfl, ⟨.inl rfl, trivial⟩⟩⟩⟩⟩⟩⟩ ?_
                              exact ih_6 _ (by omega) (i + 1) (a + 1) σ130 rfl (by omega) (by omega) (by rw [es, ← ha]; unfold rcT; (repeat' split) <;> omega) (by first | exact hqv | exact hq_130)
                          · skip
                            refine w_iconst (pc' := 148) (by decide) dX3_recordOf_147 rfl ?_
                            refine w_goto (pc' := 152) dX3_recordOf_148 rfl ?_
                            refine w_icmp_ne (pc' := 155) (t := 159) dX3_recordOf_152 rfl rfl (fun c_152 => ?_) (fun c_152 => ?_)
                            · skip
                              refine w_iconst (pc' := 160) (by decide) dX3_recordOf_159 rfl ?_
                              refine v_iadd (pc' := 161) (by have := hle (by omega); omega) dX3_recordOf_160 rfl ?_
                              refine w_istore (pc' := 163) (ls' := [gR 110, gI p, gI t, gI w, gI (a + 0), gI i, gI (gb (TOLD σ0 i t ≠ -1))]) (by decide) (by rfl) dX3_recordOf_161 rfl ?_
                              refine v_iinc (pc' := 166) (x := i) (ls' := [gR 110, gI p, gI t, gI w, gI (a + 0), gI (i + 1), gI (gb (TOLD σ0 i t ≠ -1))]) (by omega) (by decide) (by rfl) (by rfl) dX3_recordOf_163 rfl ?_
                              refine w_goto (pc' := 6) dX3_recordOf_166 rfl ?_
                              refine Wp.lose (ls' := [gR 110, gI p, gI t, gI w, gI (a + 0), gI (i + 1), gX 1]) ⟨.inr rfl, ⟨.inr rfl, ⟨.inr rfl, ⟨.inr rfl, ⟨.inr rfl, ⟨.inr rfl, ⟨.inl rfl, trivial⟩⟩⟩⟩⟩⟩⟩ ?_
                              exact ih_6 _ (by omega) (i + 1) (a + 0) σ130 rfl (by omega) (by omega) (by rw [es, ← ha]; unfold rcT; (repeat' split) <;> omega) (by first | exact hqv | exact hq_130)
                            · skip
                              refine w_iconst (pc' := 156) (by decide) dX3_recordOf_155 rfl ?_
                              refine w_goto (pc' := 160) dX3_recordOf_156 rfl ?_
                              refine v_iadd (pc' := 161) (by have := hle (by omega); omega) dX3_recordOf_160 rfl ?_
                              refine w_istore (pc' := 163) (ls' := [gR 110, gI p, gI t, gI w, gI (a + 1), gI i, gI (gb (TOLD σ0 i t ≠ -1))]) (by decide) (by rfl) dX3_recordOf_161 rfl ?_
                              refine v_iinc (pc' := 166) (x := i) (ls' := [gR 110, gI p, gI t, gI w, gI (a + 1), gI (i + 1), gI (gb (TOLD σ0 i t ≠ -1))]) (by omega) (by decide) (by rfl) (by rfl) dX3_recordOf_163 rfl ?_
                              refine w_goto (pc' := 6) dX3_recordOf_166 rfl ?_
                              refine Wp.lose (ls' := [gR 110, gI p, gI t, gI w, gI (a + 1), gI (i + 1), gX 1]) ⟨.inr rfl, ⟨.inr rfl, ⟨.inr rfl, ⟨.inr rfl, ⟨.inr rfl, ⟨.inr rfl, ⟨.inl rfl, trivial⟩⟩⟩⟩⟩⟩⟩ ?_
                              exact ih_6 _ (by omega) (i + 1) (a + 1) σ130 rfl (by omega) (by omega) (by rw [es, ← ha]; unfold rcT; (repeat' split) <;> omega) (by first | exact hqv | exact hq_130)
                    · skip
                      refine w_iload (pc' := 95) (by rfl) dX3_recordOf_93 rfl ?_
                      refine v_if_eqB (pc' := 98) (t := 116) dX3_recordOf_95 rfl rfl (fun c_95 => ?_) (fun c_95 => ?_)
                      · skip
                        refine w_iload_n (pc' := 117) (i := 3) (by rfl) (by rfl) dX3_recordOf_116 rfl ?_
                        refine w_iconst (pc' := 118) (by decide) dX3_recordOf_117 rfl ?_
                        refine w_icmp_eq (pc' := 121) (t := 126) dX3_recordOf_118 rfl rfl (fun c_118 => ?_) (fun c_118 => ?_)
                        · skip
                          refine w_aload_n (pc' := 127) (i := 0) (by rfl) (by rfl) dX3_recordOf_126 rfl ?_
                          refine w_iload (pc' := 129) (by rfl) dX3_recordOf_127 rfl ?_
                          refine w_iload_n (pc' := 130) (i := 2) (by rfl) (by rfl) dX3_recordOf_129 rfl ?_
                          refine w_callV (pc' := 133) (d' := 5) (av := [gI i, gI t]) mi_mX3_decide lk_X3_39 rfl ci_X3 kd_110 rfl (Nat.le_of_ble_eq_true rfl) (Nat.le_of_ble_eq_true rfl) dX3_recordOf_130 rfl (k_decide hI hqv i t ⟨by omega, by omega⟩ rfl) (fun v_130 σ130 q_130 => ?_)
                          obtain ⟨rfl, hq_130, hk_130, hr_130, hd_130, _, _⟩ := q_130
                          show Wp _ _ _ _ _ _ []
                          refine w_iload (pc' := 135) (by rfl) dX3_recordOf_133 rfl ?_
                          refine w_aload_n (pc' := 136) (i := 0) (by rfl) (by rfl) dX3_recordOf_135 rfl ?_
                          refine w_iload (pc' := 138) (by rfl) dX3_recordOf_136 rfl ?_
                          refine w_iload_n (pc' := 139) (i := 2) (by rfl) (by rfl) dX3_recordOf_138 rfl ?_
                          refine v_callVE (pc' := 142) (st' := [gI (STV σ0 i t), gI a]) (d' := 3) (av := [gI i, gI t]) mi_mX3_stateOf lk_X3_43 rfl ci_X3 kd_110 rfl (Nat.le_of_ble_eq_true rfl) (Nat.le_of_ble_eq_true rfl) dX3_recordOf_139 rfl rfl (k_stateOf hI hq_130 i t ⟨by omega, by omega⟩ hr_130 hd_130) ?_
                          refine w_iload_n (pc' := 143) (i := 3) (by rfl) (by rfl) dX3_recordOf_142 rfl ?_
                          refine w_iconst (pc' := 144) (by decide) dX3_recordOf_143 rfl ?_
                          refine w_icmp_ne (pc' := 147) (t := 151) dX3_recordOf_144 rfl rfl (fun c_144 => ?_) (fun c_144 => ?_)
                          · skip
                            refine w_iconst (pc' := 152) (by decide) dX3_recordOf_151 rfl ?_
                            refine w_icmp_ne (pc' := 155) (t := 159) dX3_recordOf_152 rfl rfl (fun c_152 => ?_) (fun c_152 => ?_)
                            · skip
                              refine w_iconst (pc' := 160) (by decide) dX3_recordOf_159 rfl ?_
                              refine v_iadd (pc' := 161) (by have := hle (by omega); omega) dX3_recordOf_160 rfl ?_
                              refine w_istore (pc' := 163) (ls' := [gR 110, gI p, gI t, gI w, gI (a + 0), gI i, gI (gb (TOLD σ0 i t ≠ -1))]) (by decide) (by rfl) dX3_recordOf_161 rfl ?_
                              refine v_iinc (pc' := 166) (x := i) (ls' := [gR 110, gI p, gI t, gI w, gI (a + 0), gI (i + 1), gI (gb (TOLD σ0 i t ≠ -1))]) (by omega) (by decide) (by rfl) (by rfl) dX3_recordOf_163 rfl ?_
                              refine w_goto (pc' := 6) dX3_recordOf_166 rfl ?_
                              refine Wp.lose (ls' := [gR 110, gI p, gI t, gI w, gI (a + 0), gI (i + 1), gX 1]) ⟨.inr rfl, ⟨.inr rfl, ⟨.inr rfl, ⟨.inr rfl, ⟨.inr rfl, ⟨.inr rfl, ⟨.inl rfl, trivial⟩⟩⟩⟩⟩⟩⟩ ?_
                              exact ih_6 _ (by omega) (i + 1) (a + 0) σ130 rfl (by omega) (by omega) (by rw [es, ← ha]; unfold rcT; (repeat' split) <;> omega) (by first | exact hqv | exact hq_130)
                            · skip
                              refine w_iconst (pc' := 156) (by decide) dX3_recordOf_155 rfl ?_
                              refine w_goto (pc' := 160) dX3_recordOf_156 rfl ?_
                              refine v_iadd (pc' := 161) (by have := hle (by omega); omega) dX3_recordOf_160 rfl ?_
                              refine w_istore (pc' := 163) (ls' := [gR 110, gI p, gI t, gI w, gI (a + 1), gI i, gI (gb (TOLD σ0 i t ≠ -1))]) (by decide) (by rfl) dX3_recordOf_161 rfl ?_
                              refine v_iinc (pc' := 166) (x := i) (ls' := [gR 110, gI p, gI t, gI w, gI (a + 1), gI (i + 1), gI (gb (TOLD σ0 i t ≠ -1))]) (by omega) (by decide) (by rfl) (by rfl) dX3_recordOf_163 rfl ?_
                              refine w_goto (pc' := 6) dX3_recordOf_166 rfl ?_
                              refine Wp.lose (ls' := [gR 110, gI p, gI t, gI w, gI (a + 1), gI (i + 1), gX 1]) ⟨.inr rfl, ⟨.inr rfl, ⟨.inr rfl, ⟨.inr rfl, ⟨.inr rfl, ⟨.inr rfl, ⟨.inl rfl, trivial⟩⟩⟩⟩⟩⟩⟩ ?_
                              exact ih_6 _ (by omega) (i + 1) (a + 1) σ130 rfl (by omega) (by omega) (by rw [es, ← ha]; unfold rcT; (repeat' split) <;> omega) (by first | exact hqv | exact hq_130)
                          · skip
                            refine w_iconst (pc' := 148) (by decide) dX3_recordOf_147 rfl ?_
                            refine w_goto (pc' := 152) dX3_recordOf_148 rfl ?_
                            refine w_icmp_ne (pc' := 155) (t := 159) dX3_recordOf_152 rfl rfl (fun c_152 => ?_) (fun c_152 => ?_)
                            · skip
                              refine w_iconst (pc' := 160) (by decide) dX3_recordOf_159 rfl ?_
                              refine v_iadd (pc' := 161) (by have := hle (by omega); omega) dX3_recordOf_160 rfl ?_
                              refine w_istore (pc' := 163) (ls' := [gR 110, gI p, gI t, gI w, gI (a + 0), gI i, gI (gb (TOLD σ0 i t ≠ -1))]) (by decide) (by rfl) dX3_recordOf_161 rfl ?_
                              refine v_iinc (pc' := 166) (x := i) (ls' := [gR 110, gI p, gI t, gI w, gI (a + 0), gI (i + 1), gI (gb (TOLD σ0 i t ≠ -1))]) (by omega) (by decide) (by rfl) (by rfl) dX3_recordOf_163 rfl ?_
                              refine w_goto (pc' := 6) dX3_recordOf_166 rfl ?_
                              refine Wp.lose (ls' := [gR 110, gI p, gI t, gI w, gI (a + 0), gI (i + 1), gX 1]) ⟨.inr rfl, ⟨.inr rfl, ⟨.inr rfl, ⟨.inr rfl, ⟨.inr rfl, ⟨.inr rfl, ⟨.inl rfl, trivial⟩⟩⟩⟩⟩⟩⟩ ?_
                              exact ih_6 _ (by omega) (i + 1) (a + 0) σ130 rfl (by omega) (by omega) (by rw [es, ← ha]; unfold rcT; (repeat' split) <;> omega) (by first | exact hqv | exact hq_130)
                            · skip
                              refine w_iconst (pc' := 156) (by decide) dX3_recordOf_155 rfl ?_
                              refine w_goto (pc' := 160) dX3_recordOf_156 rfl ?_
                              refine v_iadd (pc' := 161) (by have := hle (by omega); omega) dX3_recordOf_160 rfl ?_
                              refine w_istore (pc' := 163) (ls' := [gR 110, gI p, gI t, gI w, gI (a + 1), gI i, gI (gb (TOLD σ0 i t ≠ -1))]) (by decide) (by rfl) dX3_recordOf_161 rfl ?_
                              refine v_iinc (pc' := 166) (x := i) (ls' := [gR 110, gI p, gI t, gI w, gI (a + 1), gI (i + 1), gI (gb (TOLD σ0 i t ≠ -1))]) (by omega) (by decide) (by rfl) (by rfl) dX3_recordOf_163 rfl ?_
                              refine w_goto (pc' := 6) dX3_recordOf_166 rfl ?_
                              refine Wp.lose (ls' := [gR 110, gI p, gI t, gI w, gI (a + 1), gI (i + 1), gX 1]) ⟨.inr rfl, ⟨.inr rfl, ⟨.inr rfl, ⟨.inr rfl, ⟨.inr rfl, ⟨.inr rfl, ⟨.inl rfl, trivial⟩⟩⟩⟩⟩⟩⟩ ?_
                              exact ih_6 _ (by omega) (i + 1) (a + 1) σ130 rfl (by omega) (by omega) (by rw [es, ← ha]; unfold rcT; (repeat' split) <;> omega) (by first | exact hqv | exact hq_130)
                        · skip
                          refine w_iload_n (pc' := 122) (i := 3) (by rfl) (by rfl) dX3_recordOf_121 rfl ?_
                          refine w_iconst (pc' := 123) (by decide) dX3_recordOf_122 rfl ?_
                          refine w_icmp_ne (pc' := 126) (t := 163) dX3_recordOf_123 rfl rfl (fun c_123 => ?_) (fun c_123 => ?_)
                          · skip
                            refine v_iinc (pc' := 166) (x := i) (ls' := [gR 110, gI p, gI t, gI w, gI a, gI (i + 1), gI (gb (TOLD σ0 i t ≠ -1))]) (by omega) (by decide) (by rfl) (by rfl) dX3_recordOf_163 rfl ?_
                            refine w_goto (pc' := 6) dX3_recordOf_166 rfl ?_
                            refine Wp.lose (ls' := [gR 110, gI p, gI t, gI w, gI a, gI (i + 1), gX 1]) ⟨.inr rfl, ⟨.inr rfl, ⟨.inr rfl, ⟨.inr rfl, ⟨.inr rfl, ⟨.inr rfl, ⟨.inl rfl, trivial⟩⟩⟩⟩⟩⟩⟩ ?_
                            exact ih_6 _ (by omega) (i + 1) a σv rfl (by omega) (by omega) (by rw [es, ← ha]; unfold rcT; (repeat' split) <;> omega) (by first | exact hqv | exact hq_130)
                          · skip
                            refine w_aload_n (pc' := 127) (i := 0) (by rfl) (by rfl) dX3_recordOf_126 rfl ?_
                            refine w_iload (pc' := 129) (by rfl) dX3_recordOf_127 rfl ?_
                            refine w_iload_n (pc' := 130) (i := 2) (by rfl) (by rfl) dX3_recordOf_129 rfl ?_
                            refine w_callV (pc' := 133) (d' := 5) (av := [gI i, gI t]) mi_mX3_decide lk_X3_39 rfl ci_X3 kd_110 rfl (Nat.le_of_ble_eq_true rfl) (Nat.le_of_ble_eq_true rfl) dX3_recordOf_130 rfl (k_decide hI hqv i t ⟨by omega, by omega⟩ rfl) (fun v_130 σ130 q_130 => ?_)
                            obtain ⟨rfl, hq_130, hk_130, hr_130, hd_130, _, _⟩ := q_130
                            show Wp _ _ _ _ _ _ []
                            refine w_iload (pc' := 135) (by rfl) dX3_recordOf_133 rfl ?_
                            refine w_aload_n (pc' := 136) (i := 0) (by rfl) (by rfl) dX3_recordOf_135 rfl ?_
                            refine w_iload (pc' := 138) (by rfl) dX3_recordOf_136 rfl ?_
                            refine w_iload_n (pc' := 139) (i := 2) (by rfl) (by rfl) dX3_recordOf_138 rfl ?_
                            refine v_callVE (pc' := 142) (st' := [gI (STV σ0 i t), gI a]) (d' := 3) (av := [gI i, gI t]) mi_mX3_stateOf lk_X3_43 rfl ci_X3 kd_110 rfl (Nat.le_of_ble_eq_true rfl) (Nat.le_of_ble_eq_true rfl) dX3_recordOf_139 rfl rfl (k_stateOf hI hq_130 i t ⟨by omega, by omega⟩ hr_130 hd_130) ?_
                            refine w_iload_n (pc' := 143) (i := 3) (by rfl) (by rfl) dX3_recordOf_142 rfl ?_
                            refine w_iconst (pc' := 144) (by decide) dX3_recordOf_143 rfl ?_
                            refine w_icmp_ne (pc' := 147) (t := 151) dX3_recordOf_144 rfl rfl (fun c_144 => ?_) (fun c_144 => ?_)
                            · skip
                              refine w_iconst (pc' := 152) (by decide) dX3_recordOf_151 rfl ?_
                              refine w_icmp_ne (pc' := 155) (t := 159) dX3_recordOf_152 rfl rfl (fun c_152 => ?_) (fun c_152 => ?_)
                              · skip
                                refine w_iconst (pc' := 160) (by decide) dX3_recordOf_159 rfl ?_
                                refine v_iadd (pc' := 161) (by have := hle (by omega); omega) dX3_recordOf_160 rfl ?_
                                refine w_istore (pc' := 163) (ls' := [gR 110, gI p, gI t, gI w, gI (a + 0), gI i, gI (gb (TOLD σ0 i t ≠ -1))]) (by decide) (by rfl) dX3_recordOf_161 rfl ?_
                                refine v_iinc (pc' := 166) (x := i) (ls' := [gR 110, gI p, gI t, gI w, gI (a + 0), gI (i + 1), gI (gb (TOLD σ0 i t ≠ -1))]) (by omega) (by decide) (by rfl) (by rfl) dX3_recordOf_163 rfl ?_
                                refine w_goto (pc' := 6) dX3_recordOf_166 rfl ?_
                                refine Wp.lose (ls' := [gR 110, gI p, gI t, gI w, gI (a + 0), gI (i + 1), gX 1]) ⟨.inr rfl, ⟨.inr rfl, ⟨.inr rfl, ⟨.inr rfl, ⟨.inr rfl, ⟨.inr rfl, ⟨.inl rfl, trivial⟩⟩⟩⟩⟩⟩⟩ ?_
                                exact ih_6 _ (by omega) (i + 1) (a + 0) σ130 rfl (by omega) (by omega) (by rw [es, ← ha]; unfold rcT; (repeat' split) <;> omega) (by first | exact hqv | exact hq_130)
                              · skip
                                refine w_iconst (pc' := 156) (by decide) dX3_recordOf_155 rfl ?_
                                refine w_goto (pc' := 160) dX3_recordOf_156 rfl ?_
                                refine v_iadd (pc' := 161) (by have := hle (by omega); omega) dX3_recordOf_160 rfl ?_
                                refine w_istore (pc' := 163) (ls' := [gR 110, gI p, gI t, gI w, gI (a + 1), gI i, gI (gb (TOLD σ0 i t ≠ -1))]) (by decide) (by rfl) dX3_recordOf_161 rfl ?_
                                refine v_iinc (pc' := 166) (x := i) (ls' := [gR 110, gI p, gI t, gI w, gI (a + 1), gI (i + 1), gI (gb (TOLD σ0 i t ≠ -1))]) (by omega) (by decide) (by rfl) (by rfl) dX3_recordOf_163 rfl ?_
                                refine w_goto (pc' := 6) dX3_recordOf_166 rfl ?_
                                refine Wp.lose (ls' := [gR 110, gI p, gI t, gI w, gI (a + 1), gI (i + 1), gX 1]) ⟨.inr rfl, ⟨.inr rfl, ⟨.inr rfl, ⟨.inr rfl, ⟨.inr rfl, ⟨.inr rfl, ⟨.inl rfl, trivial⟩⟩⟩⟩⟩⟩⟩ ?_
                                exact ih_6 _ (by omega) (i + 1) (a + 1) σ130 rfl (by omega) (by omega) (by rw [es, ← ha]; unfold rcT; (repeat' split) <;> omega) (by first | exact hqv | exact hq_130)
                            · skip
                              refine w_iconst (pc' := 148) (by decide) dX3_recordOf_147 rfl ?_
                              refine w_goto (pc' := 152) dX3_recordOf_148 rfl ?_
                              refine w_icmp_ne (pc' := 155) (t := 159) dX3_recordOf_152 rfl rfl (fun c_152 => ?_) (fun c_152 => ?_)
                              · skip
                                refine w_iconst (pc' := 160) (by decide) dX3_recordOf_159 rfl ?_
                                refine v_iadd (pc' := 161) (by have := hle (by omega); omega) dX3_recordOf_160 rfl ?_
                                refine w_istore (pc' := 163) (ls' := [gR 110, gI p, gI t, gI w, gI (a + 0), gI i, gI (gb (TOLD σ0 i t ≠ -1))]) (by decide) (by rfl) dX3_recordOf_161 rfl ?_
                                refine v_iinc (pc' := 166) (x := i) (ls' := [gR 110, gI p, gI t, gI w, gI (a + 0), gI (i + 1), gI (gb (TOLD σ0 i t ≠ -1))]) (by omega) (by decide) (by rfl) (by rfl) dX3_recordOf_163 rfl ?_
                                refine w_goto (pc' := 6) dX3_recordOf_166 rfl ?_
                                refine Wp.lose (ls' := [gR 110, gI p, gI t, gI w, gI (a + 0), gI (i + 1), gX 1]) ⟨.inr rfl, ⟨.inr rfl, ⟨.inr rfl, ⟨.inr rfl, ⟨.inr rfl, ⟨.inr rfl, ⟨.inl rfl, trivial⟩⟩⟩⟩⟩⟩⟩ ?_
                                exact ih_6 _ (by omega) (i + 1) (a + 0) σ130 rfl (by omega) (by omega) (by rw [es, ← ha]; unfold rcT; (repeat' split) <;> omega) (by first | exact hqv | exact hq_130)
                              · skip
                                refine w_iconst (pc' := 156) (by decide) dX3_recordOf_155 rfl ?_
                                refine w_goto (pc' := 160) dX3_recordOf_156 rfl ?_
                                refine v_iadd (pc' := 161) (by have := hle (by omega); omega) dX3_recordOf_160 rfl ?_
                                refine w_istore (pc' := 163) (ls' := [gR 110, gI p, gI t, gI w, gI (a + 1), gI i, gI (gb (TOLD σ0 i t ≠ -1))]) (by decide) (by rfl) dX3_recordOf_161 rfl ?_
                                refine v_iinc (pc' := 166) (x := i) (ls' := [gR 110, gI p, gI t, gI w, gI (a + 1), gI (i + 1), gI (gb (TOLD σ0 i t ≠ -1))]) (by omega) (by decide) (by rfl) (by rfl) dX3_recordOf_163 rfl ?_
                                refine w_goto (pc' := 6) dX3_recordOf_166 rfl ?_
                                refine Wp.lose (ls' := [gR 110, gI p, gI t, gI w, gI (a + 1), gI (i + 1), gX 1]) ⟨.inr rfl, ⟨.inr rfl, ⟨.inr rfl, ⟨.inr rfl, ⟨.inr rfl, ⟨.inr rfl, ⟨.inl rfl, trivial⟩⟩⟩⟩⟩⟩⟩ ?_
                                exact ih_6 _ (by omega) (i + 1) (a + 1) σ130 rfl (by omega) (by omega) (by rw [es, ← ha]; unfold rcT; (repeat' split) <;> omega) (by first | exact hqv | exact hq_130)
                      · skip
                        refine w_iload (pc' := 100) (by rfl) dX3_recordOf_98 rfl ?_
                        refine w_aload_n (pc' := 101) (i := 0) (by rfl) (by rfl) dX3_recordOf_100 rfl ?_
                        refine w_getS (pc' := 104) (q := 41) fg_X3_31 kd_110 sf_X3_4 gr_110_4 dX3_recordOf_101 rfl ?_
                        refine w_iload (pc' := 106) (by rfl) dX3_recordOf_104 rfl ?_
                        refine w_iload_n (pc' := 107) (i := 2) (by rfl) (by rfl) dX3_recordOf_106 rfl ?_
                        refine v_callVE (pc' := 110) (st' := [gI (LEAST σ0 i t), gI a]) (d' := 2) (av := [gI i, gI t]) mi_mX2_leastOf lk_X3_71 rfl ci_X2 kd_41 rfl (Nat.le_of_ble_eq_true rfl) (Nat.le_of_ble_eq_true rfl) dX3_recordOf_107 rfl rfl (hmP (F := fun z => gI (LEAST z i t)) (hqv.1) (fun _ => rfl) (g_leastOf σv (hm_FA (hqv.1) hI.1).1.hz i t (gr_n (hqv.1) ⟨by omega, by omega⟩))) ?_
                        refine v_iadd (pc' := 111) (by have := hle (by omega); omega) dX3_recordOf_110 rfl ?_
                        refine w_istore (pc' := 113) (ls' := [gR 110, gI p, gI t, gI w, gI (a + (LEAST σ0 i t)), gI i, gI (gb (TOLD σ0 i t ≠ -1))]) (by decide) (by rfl) dX3_recordOf_111 rfl ?_
                        refine w_goto (pc' := 163) dX3_recordOf_113 rfl ?_
                        refine v_iinc (pc' := 166) (x := i) (ls' := [gR 110, gI p, gI t, gI w, gI (a + (LEAST σ0 i t)), gI (i + 1), gI (gb (TOLD σ0 i t ≠ -1))]) (by omega) (by decide) (by rfl) (by rfl) dX3_recordOf_163 rfl ?_
                        refine w_goto (pc' := 6) dX3_recordOf_166 rfl ?_
                        refine Wp.lose (ls' := [gR 110, gI p, gI t, gI w, gI (a + (LEAST σ0 i t)), gI (i + 1), gX 1]) ⟨.inr rfl, ⟨.inr rfl, ⟨.inr rfl, ⟨.inr rfl, ⟨.inr rfl, ⟨.inr rfl, ⟨.inl rfl, trivial⟩⟩⟩⟩⟩⟩⟩ ?_
                        exact ih_6 _ (by omega) (i + 1) (a + (LEAST σ0 i t)) σv rfl (by omega) (by omega) (by rw [es, ← ha]; unfold rcT; (repeat' split) <;> omega) (by first | exact hqv | exact hq_130)
                  · skip
                    refine v_iinc (pc' := 85) (x := a) (ls' := [gR 110, gI p, gI t, gI w, gI (a + 1), gI i, gI (gb (TOLD σ0 i t ≠ -1))]) (by omega) (by decide) (by rfl) (by rfl) dX3_recordOf_82 rfl ?_
                    refine w_goto (pc' := 163) dX3_recordOf_85 rfl ?_
                    refine v_iinc (pc' := 166) (x := i) (ls' := [gR 110, gI p, gI t, gI w, gI (a + 1), gI (i + 1), gI (gb (TOLD σ0 i t ≠ -1))]) (by omega) (by decide) (by rfl) (by rfl) dX3_recordOf_163 rfl ?_
                    refine w_goto (pc' := 6) dX3_recordOf_166 rfl ?_
                    refine Wp.lose (ls' := [gR 110, gI p, gI t, gI w, gI (a + 1), gI (i + 1), gX 1]) ⟨.inr rfl, ⟨.inr rfl, ⟨.inr rfl, ⟨.inr rfl, ⟨.inr rfl, ⟨.inr rfl, ⟨.inl rfl, trivial⟩⟩⟩⟩⟩⟩⟩ ?_
                    exact ih_6 _ (by omega) (i + 1) (a + 1) σv rfl (by omega) (by omega) (by rw [es, ← ha]; unfold rcT; (repeat' split) <;> omega) (by first | exact hqv | exact hq_130)
            refine w_aload_n (pc' := 48) (i := 0) (by rfl) (by rfl) dX3_recordOf_47 rfl ?_
            refine w_getS (pc' := 51) (q := 41) fg_X3_31 kd_110 sf_X3_4 gr_110_4 dX3_recordOf_48 rfl ?_
            refine w_iload (pc' := 53) (by rfl) dX3_recordOf_51 rfl ?_
            refine w_iload_n (pc' := 54) (i := 2) (by rfl) (by rfl) dX3_recordOf_53 rfl ?_
            refine v_callVE (pc' := 57) (st' := [gI (TOLD σ0 i t)]) (d' := 1) (av := [gI i, gI t]) mi_mX2_toldOn lk_X3_68 rfl ci_X2 kd_41 rfl (Nat.le_of_ble_eq_true rfl) (Nat.le_of_ble_eq_true rfl) dX3_recordOf_54 rfl rfl (hmP (F := fun z => gI (TOLD z i t)) (hqv.1) (fun _ => rfl) (g_toldOn σv (hm_FA (hqv.1) hI.1).1.hz i t (gr_n (hqv.1) ⟨by omega, by omega⟩))) ?_
            refine w_iconst (pc' := 58) (by decide) dX3_recordOf_57 rfl ?_
            refine w_icmp_eq (pc' := 61) (t := 65) dX3_recordOf_58 rfl rfl (fun c_58 => ?_) (fun c_58 => ?_)
            · skip
              refine w_iconst (pc' := 66) (by decide) dX3_recordOf_65 rfl ?_
              exact Wp.stI (by first | (exfalso; omega) | exact (gb_f (P := TOLD σ0 i t ≠ -1) (by omega)).symm) hj_66
            · skip
              refine w_iconst (pc' := 62) (by decide) dX3_recordOf_61 rfl ?_
              refine w_goto (pc' := 66) dX3_recordOf_62 rfl ?_
              exact Wp.stI (by first | (exfalso; omega) | exact (gb_t (P := TOLD σ0 i t ≠ -1) (by omega)).symm) hj_66
          · skip
            refine w_goto (pc' := 163) dX3_recordOf_44 rfl ?_
            refine v_iinc (pc' := 166) (x := i) (ls' := [gR 110, gI p, gI t, gI w, gI a, gI (i + 1), gX 1]) (by omega) (by decide) (by rfl) (by rfl) dX3_recordOf_163 rfl ?_
            refine w_goto (pc' := 6) dX3_recordOf_166 rfl ?_
            exact ih_6 _ (by omega) (i + 1) a σv rfl (by omega) (by omega) (by rw [es, ← ha]; unfold rcT; (repeat' split) <;> omega) (by first | exact hqv | exact hq_130)
  exact hl_6 _ 0 0 σ rfl (by omega) (by omega) (by rfl) (by exact hq)
set_option maxHeartbeats 4000000
theorem x_asked {σ0 : gH} (hI : Inv σ0) (p t w : Int) : Mt mX11_asked 30 [gR 0, gI p, gI t, gI w] σ0 (fun v σ' => v = gI (if ((0 ≤ p ∧ p < σ0 3 2) ∧ σ0 4 p = 0) ∧ 0 ≤ w ∧ w ≤ 5 then (if w = 5 then cutP (bigW (gP σ0 p t) 60) else RC σ0 p t w (σ0 41 11).toNat) else -1) ∧ QC σ0 σ') := by
  refine Mt.walk (ls := [gR 0, gI p, gI t, gI w]) pn_X11 rfl (fun _ _ h => by cases h.1) (Nat.le_of_ble_eq_true rfl) rfl ?_
  have hp := hI.f.hp
  have hp0 := hI.f.party.2.1
  have hz0 := hI.f.hz
  refine w_aload_n (pc' := 1) (i := 0) (by rfl) (by rfl) dX11_asked_0 rfl ?_
  refine w_getS (pc' := 4) (q := 3) fg_X11_21 kd_0 sf_X11_5 gr_0_5 dX11_asked_1 rfl ?_
  refine w_iload_n (pc' := 5) (i := 1) (by rfl) (by rfl) dX11_asked_4 rfl ?_
  refine v_callVE (pc' := 8) (st' := [gI (gb ((0 ≤ p ∧ p < (σ0 3 2)) ∧ (σ0 4 p) = 0))]) (d' := 1) (av := [gI p]) mi_mX8_isPerson lk_X11_132 rfl ci_X8 kd_3 rfl (Nat.le_of_ble_eq_true rfl) (Nat.le_of_ble_eq_true rfl) dX11_asked_5 rfl rfl (hmP (F := fun z => gI (gb ((0 ≤ p ∧ p < (z 3 2)) ∧ (z 4 p) = 0))) ((QC.refl hI).1) (fun _ => rfl) (pa_isPerson σ0 (hm_FA ((QC.refl hI).1) hI.1).1.hp p)) ?_
  refine v_if_eqB (pc' := 11) (t := 20) dX11_asked_8 rfl rfl (fun c_8 => ?_) (fun c_8 => ?_)
  · skip
    refine w_iconst (pc' := 21) (by decide) dX11_asked_20 rfl ?_
    refine v_ireturn rfl dX11_asked_21 ?_
    exact ⟨by rw [if_neg (by omega)], QC.refl hI⟩
  · skip
    refine w_iload_n (pc' := 12) (i := 3) (by rfl) (by rfl) dX11_asked_11 rfl ?_
    refine w_if_lt (pc' := 15) (t := 20) dX11_asked_12 rfl rfl (fun c_12 => ?_) (fun c_12 => ?_)
    · skip
      refine w_iconst (pc' := 21) (by decide) dX11_asked_20 rfl ?_
      refine v_ireturn rfl dX11_asked_21 ?_
      exact ⟨by rw [if_neg (by omega)], QC.refl hI⟩
    · skip
      refine w_iload_n (pc' := 16) (i := 3) (by rfl) (by rfl) dX11_asked_15 rfl ?_
      refine w_iconst (pc' := 17) (by decide) dX11_asked_16 rfl ?_
      refine w_icmp_le (pc' := 20) (t := 22) dX11_asked_17 rfl rfl (fun c_17 => ?_) (fun c_17 => ?_)
      · skip
        refine w_iload_n (pc' := 23) (i := 3) (by rfl) (by rfl) dX11_asked_22 rfl ?_
        refine w_iconst (pc' := 24) (by decide) dX11_asked_23 rfl ?_
        refine w_icmp_ne (pc' := 27) (t := 39) dX11_asked_24 rfl rfl (fun c_24 => ?_) (fun c_24 => ?_)
        · skip
          refine w_aload_n (pc' := 40) (i := 0) (by rfl) (by rfl) dX11_asked_39 rfl ?_
          refine w_getS (pc' := 43) (q := 110) fg_X11_67 kd_0 sf_X11_11 gr_0_11 dX11_asked_40 rfl ?_
          refine w_iload_n (pc' := 44) (i := 1) (by rfl) (by rfl) dX11_asked_43 rfl ?_
          refine w_iload_n (pc' := 45) (i := 2) (by rfl) (by rfl) dX11_asked_44 rfl ?_
          refine w_iload_n (pc' := 46) (i := 3) (by rfl) (by rfl) dX11_asked_45 rfl ?_
          refine w_callV (pc' := 49) (d' := 6) (av := [gI p, gI t, gI w]) mi_mX3_recordOf lk_X11_267 rfl ci_X3 kd_110 rfl (Nat.le_of_ble_eq_true rfl) (Nat.le_of_ble_eq_true rfl) dX11_asked_46 rfl (k_recordOf hI (QC.refl hI) p t w ⟨by omega, by omega⟩) (fun v_46 σ46 q_46 => ?_)
          obtain ⟨rfl, hq_46⟩ := q_46
          show Wp _ _ _ _ _ _ [gI (RC σ0 p t w (σ0 41 11).toNat)]
          refine v_ireturn rfl dX11_asked_49 ?_
          first | exact ⟨by rw [if_pos (by omega), if_pos (by omega)], hq_33⟩ | exact ⟨by rw [if_pos (by omega), if_neg (by omega)], hq_46⟩
        · skip
          refine w_aload_n (pc' := 28) (i := 0) (by rfl) (by rfl) dX11_asked_27 rfl ?_
          refine w_getS (pc' := 31) (q := 30) fg_X11_35 kd_0 sf_X11_7 gr_0_7 dX11_asked_28 rfl ?_
          refine w_iload_n (pc' := 32) (i := 1) (by rfl) (by rfl) dX11_asked_31 rfl ?_
          refine w_iload_n (pc' := 33) (i := 2) (by rfl) (by rfl) dX11_asked_32 rfl ?_
          refine w_callV (pc' := 36) (d' := 7) (av := [gI p, gI t]) mi_mX0_greatestPart lk_X11_264 rfl ci_X0 kd_30 rfl (Nat.le_of_ble_eq_true rfl) (Nat.le_of_ble_eq_true rfl) dX11_asked_33 rfl (k_greatestPart hI (QC.refl hI) p t ⟨by omega, by omega⟩) (fun v_33 σ33 q_33 => ?_)
          obtain ⟨rfl, hq_33, hk_33⟩ := q_33
          show Wp _ _ _ _ _ _ [gI (cutP (bigW (gP σ0 p t) 60))]
          refine w_goto (pc' := 49) dX11_asked_36 rfl ?_
          refine v_ireturn rfl dX11_asked_49 ?_
          first | exact ⟨by rw [if_pos (by omega), if_pos (by omega)], hq_33⟩ | exact ⟨by rw [if_pos (by omega), if_neg (by omega)], hq_46⟩
      · skip
        refine w_iconst (pc' := 21) (by decide) dX11_asked_20 rfl ?_
        refine v_ireturn rfl dX11_asked_21 ?_
        exact ⟨by rw [if_neg (by omega)], QC.refl hI⟩
theorem m_asked {σ0 : gH} (hI : Inv σ0) (p t w : Int) : Mt mX12_asked 30 [gR 133, gI p, gI t, gI w] σ0 (fun v σ' => v = gI (if ((0 ≤ p ∧ p < σ0 3 2) ∧ σ0 4 p = 0) ∧ 0 ≤ w ∧ w ≤ 5 then (if w = 5 then cutP (bigW (gP σ0 p t) 60) else RC σ0 p t w (σ0 41 11).toNat) else -1) ∧ QM σ0 σ') := by
  refine Mt.walk (ls := [gR 133, gI p, gI t, gI w, gX 1, gX 1, gX 1]) pn_X12 rfl (fun _ _ h => by cases h.1) (Nat.le_of_ble_eq_true rfl) rfl ?_
  have hp := hI.f.hp
  have hp0 := hI.f.party.2.1
  have hz0 := hI.f.hz
  refine w_aload_n (pc' := 1) (i := 0) (by rfl) (by rfl) dX12_asked_0 rfl ?_
  refine w_iconst (pc' := 2) (by decide) dX12_asked_1 rfl ?_
  refine v_putI (pc' := 5) (ji := 0) rfl fp_X12_244 kd_133 sf_X12_0 dX12_asked_2 rfl ?_
  refine w_aload_n (pc' := 6) (i := 0) (by rfl) (by rfl) dX12_asked_5 rfl ?_
  refine w_iload_n (pc' := 7) (i := 1) (by rfl) (by rfl) dX12_asked_6 rfl ?_
  refine v_callVE (pc' := 10) (st' := [gI (gb ((0 ≤ p ∧ p < σ0 3 2) ∧ σ0 4 p = 0))]) (d' := 1) (av := [gI p]) mi_mX12_isPerson lk_X12_299 rfl ci_X12 kd_133 rfl (Nat.le_of_ble_eq_true rfl) (Nat.le_of_ble_eq_true rfl) dX12_asked_7 rfl rfl (qo_isPerson hI ((lm_up (k := 133) (i := 0) (v := 0) (by decide)).trans (QM.refl hI).1) p) ?_
  refine v_if_eqB (pc' := 13) (t := 22) dX12_asked_10 rfl rfl (fun c_10 => ?_) (fun c_10 => ?_)
  · skip
    refine w_iconst (pc' := 23) (by decide) dX12_asked_22 rfl ?_
    refine v_ireturn rfl dX12_asked_23 ?_
    exact ⟨by rw [if_neg (by omega)], QM.up (QM.refl hI) (by decide) (fun h => h)⟩
  · skip
    refine w_iload_n (pc' := 14) (i := 3) (by rfl) (by rfl) dX12_asked_13 rfl ?_
    refine w_if_lt (pc' := 17) (t := 22) dX12_asked_14 rfl rfl (fun c_14 => ?_) (fun c_14 => ?_)
    · skip
      refine w_iconst (pc' := 23) (by decide) dX12_asked_22 rfl ?_
      refine v_ireturn rfl dX12_asked_23 ?_
      exact ⟨by rw [if_neg (by omega)], QM.up (QM.refl hI) (by decide) (fun h => h)⟩
    · skip
      refine w_iload_n (pc' := 18) (i := 3) (by rfl) (by rfl) dX12_asked_17 rfl ?_
      refine w_iconst (pc' := 19) (by decide) dX12_asked_18 rfl ?_
      refine w_icmp_le (pc' := 22) (t := 24) dX12_asked_19 rfl rfl (fun c_19 => ?_) (fun c_19 => ?_)
      · skip
        refine w_iconst (pc' := 25) (by decide) dX12_asked_24 rfl ?_
        refine w_istore (pc' := 27) (ls' := [gR 133, gI p, gI t, gI w, gI 0, gX 1, gX 1]) (by decide) (by rfl) dX12_asked_25 rfl ?_
        refine w_iload_n (pc' := 28) (i := 3) (by rfl) (by rfl) dX12_asked_27 rfl ?_
        refine w_iconst (pc' := 29) (by decide) dX12_asked_28 rfl ?_
        refine w_icmp_ne (pc' := 32) (t := 97) dX12_asked_29 rfl rfl (fun c_29 => ?_) (fun c_29 => ?_)
        · skip
          refine w_iconst (pc' := 98) (by decide) dX12_asked_97 rfl ?_
          refine w_istore (pc' := 100) (ls' := [gR 133, gI p, gI t, gI w, gI 0, gI 0, gX 1]) (by decide) (by rfl) dX12_asked_98 rfl ?_
          have hl_100 : ∀ (mm : Nat) (i a : Int) (σv : gH), (σ0 41 11 - i).toNat = mm → (0 ≤ i) → (i ≤ σ0 41 11) → (a = RC σ0 p t w i.toNat) → (QM σ0 σv) → Wp mX12_asked 30 (fun v σ' => v = gI (if ((0 ≤ p ∧ p < σ0 3 2) ∧ σ0 4 p = 0) ∧ 0 ≤ w ∧ w ≤ 5 then (if w = 5 then cutP (bigW (gP σ0 p t) 60) else RC σ0 p t w (σ0 41 11).toNat) else -1) ∧ QM σ0 σ') σv 100 [gR 133, gI p, gI t, gI w, gI a, gI i, gX 1] [] := by
            intro m_100
            induction m_100 using Nat.strongRecOn with
            | _ m_100 ih_100 =>
              intro i a σv hmeas_100 i0 i1 ha hqv
              have hz0 := hI.f.hz
              have hrc := RC_in hI (p := p) (t := t) (w := w) i0 i1
              have hti := fun h : i < σ0 41 11 => rcT_in hI (p := p) (t := t) (w := w) i0 h
              have hle := fun h : i < σ0 41 11 => LEAST_in hI (t := t) i0 h
              have es := RC_s (σ := σ0) (p := p) (t := t) (w := w) i0
              refine w_iload (pc' := 102) (by rfl) dX12_asked_100 rfl ?_
              refine w_aload_n (pc' := 103) (i := 0) (by rfl) (by rfl) dX12_asked_102 rfl ?_
              refine v_getI (pc' := 106) (ji := 42) rfl fg_X12_313 kd_133 dX12_asked_103 rfl ?_
              rw [(hqv).rd (k := 133) (i := 42) (.inr rfl)]
              rw [hI.f42]
              refine w_icmp_ge (pc' := 109) (t := 240) dX12_asked_106 rfl rfl (fun c_106 => ?_) (fun c_106 => ?_)
              · skip
                refine w_iload (pc' := 242) (by rfl) dX12_asked_240 rfl ?_
                refine v_ireturn rfl dX12_asked_242 ?_
                exact ⟨by rw [if_pos (by omega), if_neg (by omega), ha, show i = σ0 41 11 by omega], hqv⟩
              · skip
                refine w_aload_n (pc' := 110) (i := 0) (by rfl) (by rfl) dX12_asked_109 rfl ?_
                refine w_getS (pc' := 113) (q := 154) fg_X12_75 kd_133 sf_X12_28 gr_133_28 dX12_asked_110 rfl ?_
                refine w_iload (pc' := 115) (by rfl) dX12_asked_113 rfl ?_
                refine w_iald (pc' := 116) kd_154 (by omega) (by omega) dX12_asked_115 rfl ?_
                rw [(hqv).rd (k := 154) (i := i) (.inr rfl)]
                rw [hI.e154 (i := i) (by omega) (by omega)]
                refine w_iload_n (pc' := 117) (i := 1) (by rfl) (by rfl) dX12_asked_116 rfl ?_
                refine w_icmp_ne (pc' := 120) (t := 234) dX12_asked_117 rfl rfl (fun c_117 => ?_) (fun c_117 => ?_)
                · skip
                  refine v_iinc (pc' := 237) (x := i) (ls' := [gR 133, gI p, gI t, gI w, gI a, gI (i + 1), gX 1]) (by omega) (by decide) (by rfl) (by rfl) dX12_asked_234 rfl ?_
                  refine w_goto (pc' := 100) dX12_asked_237 rfl ?_
                  exact ih_100 _ (by omega) (i + 1) a σv rfl (by omega) (by omega) (by rw [es, ← ha]; unfold rcT; (repeat' split) <;> omega) (by first | exact hqv | exact hq_208)
                · skip
                  refine w_aload_n (pc' := 121) (i := 0) (by rfl) (by rfl) dX12_asked_120 rfl ?_
                  refine w_getS (pc' := 124) (q := 159) fg_X12_90 kd_133 sf_X12_33 gr_133_33 dX12_asked_121 rfl ?_
                  refine w_iload (pc' := 126) (by rfl) dX12_asked_124 rfl ?_
                  refine w_iald (pc' := 127) kd_159 (by omega) (by omega) dX12_asked_126 rfl ?_
                  rw [(hqv).rd (k := 159) (i := i) (.inr rfl)]
                  rw [hI.e159 (i := i) (by omega) (by omega)]
                  refine w_iload_n (pc' := 128) (i := 2) (by rfl) (by rfl) dX12_asked_127 rfl ?_
                  refine w_icmp_le (pc' := 131) (t := 134) dX12_asked_128 rfl rfl (fun c_128 => ?_) (fun c_128 => ?_)
                  · skip
                    have hj_150 : Wp mX12_asked 30 (fun v σ' => v = gI (if ((0 ≤ p ∧ p < σ0 3 2) ∧ σ0 4 p = 0) ∧ 0 ≤ w ∧ w ≤ 5 then (if w = 5 then cutP (bigW (gP σ0 p t) 60) else RC σ0 p t w (σ0 41 11).toNat) else -1) ∧ QM σ0 σ') σv 150 [gR 133, gI p, gI t, gI w, gI a, gI i, gX 1] [gI (gb (TOLD σ0 i t ≠ -1))] := by
                      refine w_istore (pc' := 152) (ls' := [gR 133, gI p, gI t, gI w, gI a, gI i, gI (gb (TOLD σ0 i t ≠ -1))]) (by decide) (by rfl) dX12_asked_150 rfl ?_
                      refine w_iload_n (pc' := 153) (i := 3) (by rfl) (by rfl) dX12_asked_152 rfl ?_
                      refine w_if_eq (pc' := 156) (t := 166) dX12_asked_153 rfl rfl (fun c_153 => ?_) (fun c_153 => ?_)
                      · skip
                        refine v_iinc (pc' := 169) (x := a) (ls' := [gR 133, gI p, gI t, gI w, gI (a + 1), gI i, gI (gb (TOLD σ0 i t ≠ -1))]) (by omega) (by decide) (by rfl) (by rfl) dX12_asked_166 rfl ?_
                        refine w_iload_n (pc' := 170) (i := 3) (by rfl) (by rfl) dX12_asked_169 rfl ?_
                        refine w_iconst (pc' := 171) (by decide) dX12_asked_170 rfl ?_
                        refine w_icmp_ne (pc' := 174) (t := 191) dX12_asked_171 rfl rfl (fun c_171 => ?_) (fun c_171 => ?_)
                        · skip
                          refine w_iload_n (pc' := 192) (i := 3) (by rfl) (by rfl) dX12_asked_191 rfl ?_
                          refine w_iconst (pc' := 193) (by decide) dX12_asked_192 rfl ?_
                          refine w_icmp_eq (pc' := 196) (t := 204) dX12_asked_193 rfl rfl (fun c_193 => ?_) (fun c_193 => ?_)
                          · skip
                            refine w_aload_n (pc' := 205) (i := 0) (by rfl) (by rfl) dX12_asked_204 rfl ?_
                            refine w_iload (pc' := 207) (by rfl) dX12_asked_205 rfl ?_
                            refine w_iload_n (pc' := 208) (i := 2) (by rfl) (by rfl) dX12_asked_207 rfl ?_
                            refine w_callV (pc' := 211) (d' := 4) (av := [gI i, gI t]) mi_mX12_judge lk_X12_537 rfl ci_X12 kd_133 rfl (Nat.le_of_ble_eq_true rfl) (Nat.le_of_ble_eq_true rfl) dX12_asked_208 rfl (q_judge hI hqv i t ⟨by omega, by omega⟩ rfl) (fun v_208 σ208 q_208 => ?_)
                            obtain ⟨rfl, hq_208, hr_208, hd_208, _, _, _, _⟩ := q_208
                            show Wp _ _ _ _ _ _ []
                            refine w_aload_n (pc' := 212) (i := 0) (by rfl) (by rfl) dX12_asked_211 rfl ?_
                            refine w_iload (pc' := 214) (by rfl) dX12_asked_212 rfl ?_
                            refine w_iload_n (pc' := 215) (i := 2) (by rfl) (by rfl) dX12_asked_214 rfl ?_
                            refine v_callVE (pc' := 218) (st' := [gI (STV σ0 i t)]) (d' := 3) (av := [gI i, gI t]) mi_mX12_stateOf lk_X12_540 rfl ci_X12 kd_133 rfl (Nat.le_of_ble_eq_true rfl) (Nat.le_of_ble_eq_true rfl) dX12_asked_215 rfl rfl (q_stateOf hI hq_208 i t ⟨by omega, by omega⟩ hr_208 hd_208) ?_
                            refine w_iload_n (pc' := 219) (i := 3) (by rfl) (by rfl) dX12_asked_218 rfl ?_
                            refine w_iconst (pc' := 220) (by decide) dX12_asked_219 rfl ?_
                            refine w_icmp_ne (pc' := 223) (t := 227) dX12_asked_220 rfl rfl (fun c_220 => ?_) (fun c_220 => ?_)
                            · skip
                              refine w_iconst (pc' := 228) (by decide) dX12_asked_227 rfl ?_
                              refine w_icmp_ne (pc' := 231) (t := 234) dX12_asked_228 rfl rfl (fun c_228 => ?_) (fun c_228 => ?_)
                              · skip
                                refine v_iinc (pc' := 237) (x := i) (ls' := [gR 133, gI p, gI t, gI w, gI (a + 1), gI (i + 1), gI (gb (TOLD σ0 i t ≠ -1))]) (by omega) (by decide) (by rfl) (by rfl) dX12_asked_234 rfl ?_
                                refine w_goto (pc' := 100) dX12_asked_237 rfl ?_
                                refine Wp.lose (ls' := [gR 133, gI p, gI t, gI w, gI (a + 1), gI (i + 1), gX 1]) ⟨.inr rfl, ⟨.inr rfl, ⟨.inr rfl, ⟨.inr rfl, ⟨.inr rfl, ⟨.inr rfl, ⟨.inl rfl, trivial⟩⟩⟩⟩⟩⟩⟩ ?_
                                exact ih_100 _ (by omega) (i + 1) (a + 1) σ208 rfl (by omega) (by omega) (by rw [es, ← ha]; unfold rcT; (repeat' split) <;> omega) (by first | exact hqv | exact hq_208)
                              · skip
                                refine v_iinc (pc' := 234) (x := (a + 1)) (ls' := [gR 133, gI p, gI t, gI w, gI ((a + 1) + 1), gI i, gI (gb (TOLD σ0 i t ≠ -1))]) (by omega) (by decide) (by rfl) (by rfl) dX12_asked_231 rfl ?_
                                refine v_iinc (pc' := 237) (x := i) (ls' := [gR 133, gI p, gI t, gI w, gI ((a + 1) + 1), gI (i + 1), gI (gb (TOLD σ0 i t ≠ -1))]) (by omega) (by decide) (by rfl) (by rfl) dX12_asked_234 rfl ?_
                                refine w_goto (pc' := 100) dX12_asked_237 rfl ?_
                                refine Wp.lose (ls' := [gR 133, gI p, gI t, gI w, gI ((a + 1) + 1), gI (i + 1), gX 1]) ⟨.inr rfl, ⟨.inr rfl, ⟨.inr rfl, ⟨.inr rfl, ⟨.inr rfl, ⟨.inr rfl, ⟨.inl rfl, trivial⟩⟩⟩⟩⟩⟩⟩ ?_
                                exact ih_100 _ (by omega) (i + 1) ((a + 1) + 1) σ208 rfl (by omega) (by omega) (by rw [es, ← ha]; unfold rcT; (repeat' split) <;> omega) (by first | exact hqv | exact hq_208)
                            · skip
                              refine w_iconst (pc' := 224) (by decide) dX12_asked_223 rfl ?_
                              refine w_goto (pc' := 228) dX12_asked_224 rfl ?_
                              refine w_icmp_ne (pc' := 231) (t := 234) dX12_asked_228 rfl rfl (fun c_228 => ?_) (fun c_228 => ?_)
                              · skip
                                refine v_iinc (pc' := 237) (x := i) (ls' := [gR 133, gI p, gI t, gI w, gI (a + 1), gI (i + 1), gI (gb (TOLD σ0 i t ≠ -1))]) (by omega) (by decide) (by rfl) (by rfl) dX12_asked_234 rfl ?_
                                refine w_goto (pc' := 100) dX12_asked_237 rfl ?_
                                refine Wp.lose (ls' := [gR 133, gI p, gI t, gI w, gI (a + 1), gI (i + 1), gX 1]) ⟨.inr rfl, ⟨.inr rfl, ⟨.inr rfl, ⟨.inr rfl, ⟨.inr rfl, ⟨.inr rfl, ⟨.inl rfl, trivial⟩⟩⟩⟩⟩⟩⟩ ?_
                                exact ih_100 _ (by omega) (i + 1) (a + 1) σ208 rfl (by omega) (by omega) (by rw [es, ← ha]; unfold rcT; (repeat' split) <;> omega) (by first | exact hqv | exact hq_208)
                              · skip
                                refine v_iinc (pc' := 234) (x := (a + 1)) (ls' := [gR 133, gI p, gI t, gI w, gI ((a + 1) + 1), gI i, gI (gb (TOLD σ0 i t ≠ -1))]) (by omega) (by decide) (by rfl) (by rfl) dX12_asked_231 rfl ?_
                                refine v_iinc (pc' := 237) (x := i) (ls' := [gR 133, gI p, gI t, gI w, gI ((a + 1) + 1), gI (i + 1), gI (gb (TOLD σ0 i t ≠ -1))]) (by omega) (by decide) (by rfl) (by rfl) dX12_asked_234 rfl ?_
                                refine w_goto (pc' := 100) dX12_asked_237 rfl ?_
                                refine Wp.lose (ls' := [gR 133, gI p, gI t, gI w, gI ((a + 1) + 1), gI (i + 1), gX 1]) ⟨.inr rfl, ⟨.inr rfl, ⟨.inr rfl, ⟨.inr rfl, ⟨.inr rfl, ⟨.inr rfl, ⟨.inl rfl, trivial⟩⟩⟩⟩⟩⟩⟩ ?_
                                exact ih_100 _ (by omega) (i + 1) ((a + 1) + 1) σ208 rfl (by omega) (by omega) (by rw [es, ← ha]; unfold rcT; (repeat' split) <;> omega) (by first | exact hqv | exact hq_208)
                          · skip
                            refine w_iload_n (pc' := 197) (i := 3) (by rfl) (by rfl) dX12_asked_196 rfl ?_
                            refine w_iconst (pc' := 198) (by decide) dX12_asked_197 rfl ?_
                            refine w_icmp_eq (pc' := 201) (t := 204) dX12_asked_198 rfl rfl (fun c_198 => ?_) (fun c_198 => ?_)
                            · skip
                              refine w_aload_n (pc' := 205) (i := 0) (by rfl) (by rfl) dX12_asked_204 rfl ?_
                              refine w_iload (pc' := 207) (by rfl) dX12_asked_205 rfl ?_
                              refine w_iload_n (pc' := 208) (i := 2) (by rfl) (by rfl) dX12_asked_207 rfl ?_
                              refine w_callV (pc' := 211) (d' := 4) (av := [gI i, gI t]) mi_mX12_judge lk_X12_537 rfl ci_X12 kd_133 rfl (Nat.le_of_ble_eq_true rfl) (Nat.le_of_ble_eq_true rfl) dX12_asked_208 rfl (q_judge hI hqv i t ⟨by omega, by omega⟩ rfl) (fun v_208 σ208 q_208 => ?_)
                              obtain ⟨rfl, hq_208, hr_208, hd_208, _, _, _, _⟩ := q_208
                              show Wp _ _ _ _ _ _ []
                              refine w_aload_n (pc' := 212) (i := 0) (by rfl) (by rfl) dX12_asked_211 rfl ?_
                              refine w_iload (pc' := 214) (by rfl) dX12_asked_212 rfl ?_
                              refine w_iload_n (pc' := 215) (i := 2) (by rfl) (by rfl) dX12_asked_214 rfl ?_
                              refine v_callVE (pc' := 218) (st' := [gI (STV σ0 i t)]) (d' := 3) (av := [gI i, gI t]) mi_mX12_stateOf lk_X12_540 rfl ci_X12 kd_133 rfl (Nat.le_of_ble_eq_true rfl) (Nat.le_of_ble_eq_true rfl) dX12_asked_215 rfl rfl (q_stateOf hI hq_208 i t ⟨by omega, by omega⟩ hr_208 hd_208) ?_
                              refine w_iload_n (pc' := 219) (i := 3) (by rfl) (by rfl) dX12_asked_218 rfl ?_
                              refine w_iconst (pc' := 220) (by decide) dX12_asked_219 rfl ?_
                              refine w_icmp_ne (pc' := 223) (t := 227) dX12_asked_220 rfl rfl (fun c_220 => ?_) (fun c_220 => ?_)
                              · skip
                                refine w_iconst (pc' := 228) (by decide) dX12_asked_227 rfl ?_
                                refine w_icmp_ne (pc' := 231) (t := 234) dX12_asked_228 rfl rfl (fun c_228 => ?_) (fun c_228 => ?_)
                                · skip
                                  refine v_iinc (pc' := 237) (x := i) (ls' := [gR 133, gI p, gI t, gI w, gI (a + 1), gI (i + 1), gI (gb (TOLD σ0 i t ≠ -1))]) (by omega) (by decide) (by rfl) (by rfl) dX12_asked_234 rfl ?_
                                  refine w_goto (pc' := 100) dX12_asked_237 rfl ?_
                                  refine Wp.lose (ls' := [gR 133, gI p, gI t, gI w, gI (a + 1), gI (i + 1), gX 1]) ⟨.inr rfl, ⟨.inr rfl, ⟨.inr rfl, ⟨.inr rfl, ⟨.inr rfl, ⟨.inr rfl, ⟨.inl rfl, trivial⟩⟩⟩⟩⟩⟩⟩ ?_
                                  exact ih_100 _ (by omega) (i + 1) (a + 1) σ208 rfl (by omega) (by omega) (by rw [es, ← ha]; unfold rcT; (repeat' split) <;> omega) (by first | exact hqv | exact hq_208)
                                · skip
                                  refine v_iinc (pc' := 234) (x := (a + 1)) (ls' := [gR 133, gI p, gI t, gI w, gI ((a + 1) + 1), gI i, gI (gb (TOLD σ0 i t ≠ -1))]) (by omega) (by decide) (by rfl) (by rfl) dX12_asked_231 rfl ?_
                                  refine v_iinc (pc' := 237) (x := i) (ls' := [gR 133, gI p, gI t, gI w, gI ((a + 1) + 1), gI (i + 1), gI (gb (TOLD σ0 i t ≠ -1))]) (by omega) (by decide) (by rfl) (by rfl) dX12_asked_234 rfl ?_
                                  refine w_goto (pc' := 100) dX12_asked_237 rfl ?_
                                  refine Wp.lose (ls' := [gR 133, gI p, gI t, gI w, gI ((a + 1) + 1), gI (i + 1), gX 1]) ⟨.inr rfl, ⟨.inr rfl, ⟨.inr rfl, ⟨.inr rfl, ⟨.inr rfl, ⟨.inr rfl, ⟨.inl rfl, trivial⟩⟩⟩⟩⟩⟩⟩ ?_
                                  exact ih_100 _ (by omega) (i + 1) ((a + 1) + 1) σ208 rfl (by omega) (by omega) (by rw [es, ← ha]; unfold rcT; (repeat' split) <;> omega) (by first | exact hqv | exact hq_208)
                              · skip
                                refine w_iconst (pc' := 224) (by decide) dX12_asked_223 rfl ?_
                                refine w_goto (pc' := 228) dX12_asked_224 rfl ?_
                                refine w_icmp_ne (pc' := 231) (t := 234) dX12_asked_228 rfl rfl (fun c_228 => ?_) (fun c_228 => ?_)
                                · skip
                                  refine v_iinc (pc' := 237) (x := i) (ls' := [gR 133, gI p, gI t, gI w, gI (a + 1), gI (i + 1), gI (gb (TOLD σ0 i t ≠ -1))]) (by omega) (by decide) (by rfl) (by rfl) dX12_asked_234 rfl ?_
                                  refine w_goto (pc' := 100) dX12_asked_237 rfl ?_
                                  refine Wp.lose (ls' := [gR 133, gI p, gI t, gI w, gI (a + 1), gI (i + 1), gX 1]) ⟨.inr rfl, ⟨.inr rfl, ⟨.inr rfl, ⟨.inr rfl, ⟨.inr rfl, ⟨.inr rfl, ⟨.inl rfl, trivial⟩⟩⟩⟩⟩⟩⟩ ?_
                                  exact ih_100 _ (by omega) (i + 1) (a + 1) σ208 rfl (by omega) (by omega) (by rw [es, ← ha]; unfold rcT; (repeat' split) <;> omega) (by first | exact hqv | exact hq_208)
                                · skip
                                  refine v_iinc (pc' := 234) (x := (a + 1)) (ls' := [gR 133, gI p, gI t, gI w, gI ((a + 1) + 1), gI i, gI (gb (TOLD σ0 i t ≠ -1))]) (by omega) (by decide) (by rfl) (by rfl) dX12_asked_231 rfl ?_
                                  refine v_iinc (pc' := 237) (x := i) (ls' := [gR 133, gI p, gI t, gI w, gI ((a + 1) + 1), gI (i + 1), gI (gb (TOLD σ0 i t ≠ -1))]) (by omega) (by decide) (by rfl) (by rfl) dX12_asked_234 rfl ?_
                                  refine w_goto (pc' := 100) dX12_asked_237 rfl ?_
                                  refine Wp.lose (ls' := [gR 133, gI p, gI t, gI w, gI ((a + 1) + 1), gI (i + 1), gX 1]) ⟨.inr rfl, ⟨.inr rfl, ⟨.inr rfl, ⟨.inr rfl, ⟨.inr rfl, ⟨.inr rfl, ⟨.inl rfl, trivial⟩⟩⟩⟩⟩⟩⟩ ?_
                                  exact ih_100 _ (by omega) (i + 1) ((a + 1) + 1) σ208 rfl (by omega) (by omega) (by rw [es, ← ha]; unfold rcT; (repeat' split) <;> omega) (by first | exact hqv | exact hq_208)
                            · skip
                              refine w_goto (pc' := 234) dX12_asked_201 rfl ?_
                              refine v_iinc (pc' := 237) (x := i) (ls' := [gR 133, gI p, gI t, gI w, gI (a + 1), gI (i + 1), gI (gb (TOLD σ0 i t ≠ -1))]) (by omega) (by decide) (by rfl) (by rfl) dX12_asked_234 rfl ?_
                              refine w_goto (pc' := 100) dX12_asked_237 rfl ?_
                              refine Wp.lose (ls' := [gR 133, gI p, gI t, gI w, gI (a + 1), gI (i + 1), gX 1]) ⟨.inr rfl, ⟨.inr rfl, ⟨.inr rfl, ⟨.inr rfl, ⟨.inr rfl, ⟨.inr rfl, ⟨.inl rfl, trivial⟩⟩⟩⟩⟩⟩⟩ ?_
                              exact ih_100 _ (by omega) (i + 1) (a + 1) σv rfl (by omega) (by omega) (by rw [es, ← ha]; unfold rcT; (repeat' split) <;> omega) (by first | exact hqv | exact hq_208)
                        · skip
                          refine w_iload (pc' := 176) (by rfl) dX12_asked_174 rfl ?_
                          refine v_if_eqB (pc' := 179) (t := 191) dX12_asked_176 rfl rfl (fun c_176 => ?_) (fun c_176 => ?_)
                          · skip
                            refine w_iload_n (pc' := 192) (i := 3) (by rfl) (by rfl) dX12_asked_191 rfl ?_
                            refine w_iconst (pc' := 193) (by decide) dX12_asked_192 rfl ?_
                            refine w_icmp_eq (pc' := 196) (t := 204) dX12_asked_193 rfl rfl (fun c_193 => ?_) (fun c_193 => ?_)
                            · skip
                              refine w_aload_n (pc' := 205) (i := 0) (by rfl) (by rfl) dX12_asked_204 rfl ?_
                              refine w_iload (pc' := 207) (by rfl) dX12_asked_205 rfl ?_
                              refine w_iload_n (pc' := 208) (i := 2) (by rfl) (by rfl) dX12_asked_207 rfl ?_
                              refine w_callV (pc' := 211) (d' := 4) (av := [gI i, gI t]) mi_mX12_judge lk_X12_537 rfl ci_X12 kd_133 rfl (Nat.le_of_ble_eq_true rfl) (Nat.le_of_ble_eq_true rfl) dX12_asked_208 rfl (q_judge hI hqv i t ⟨by omega, by omega⟩ rfl) (fun v_208 σ208 q_208 => ?_)
                              obtain ⟨rfl, hq_208, hr_208, hd_208, _, _, _, _⟩ := q_208
                              show Wp _ _ _ _ _ _ []
                              refine w_aload_n (pc' := 212) (i := 0) (by rfl) (by rfl) dX12_asked_211 rfl ?_
                              refine w_iload (pc' := 214) (by rfl) dX12_asked_212 rfl ?_
                              refine w_iload_n (pc' := 215) (i := 2) (by rfl) (by rfl) dX12_asked_214 rfl ?_
                              refine v_callVE (pc' := 218) (st' := [gI (STV σ0 i t)]) (d' := 3) (av := [gI i, gI t]) mi_mX12_stateOf lk_X12_540 rfl ci_X12 kd_133 rfl (Nat.le_of_ble_eq_true rfl) (Nat.le_of_ble_eq_true rfl) dX12_asked_215 rfl rfl (q_stateOf hI hq_208 i t ⟨by omega, by omega⟩ hr_208 hd_208) ?_
                              refine w_iload_n (pc' := 219) (i := 3) (by rfl) (by rfl) dX12_asked_218 rfl ?_
                              refine w_iconst (pc' := 220) (by decide) dX12_asked_219 rfl ?_
                              refine w_icmp_ne (pc' := 223) (t := 227) dX12_asked_220 rfl rfl (fun c_220 => ?_) (fun c_220 => ?_)
                              · skip
                                refine w_iconst (pc' := 228) (by decide) dX12_asked_227 rfl ?_
                                refine w_icmp_ne (pc' := 231) (t := 234) dX12_asked_228 rfl rfl (fun c_228 => ?_) (fun c_228 => ?_)
                                · skip
                                  refine v_iinc (pc' := 237) (x := i) (ls' := [gR 133, gI p, gI t, gI w, gI (a + 1), gI (i + 1), gI (gb (TOLD σ0 i t ≠ -1))]) (by omega) (by decide) (by rfl) (by rfl) dX12_asked_234 rfl ?_
                                  refine w_goto (pc' := 100) dX12_asked_237 rfl ?_
                                  refine Wp.lose (ls' := [gR 133, gI p, gI t, gI w, gI (a + 1), gI (i + 1), gX 1]) ⟨.inr rfl, ⟨.inr rfl, ⟨.inr rfl, ⟨.inr rfl, ⟨.inr rfl, ⟨.inr rfl, ⟨.inl rfl, trivial⟩⟩⟩⟩⟩⟩⟩ ?_
                                  exact ih_100 _ (by omega) (i + 1) (a + 1) σ208 rfl (by omega) (by omega) (by rw [es, ← ha]; unfold rcT; (repeat' split) <;> omega) (by first | exact hqv | exact hq_208)
                                · skip
                                  refine v_iinc (pc' := 234) (x := (a + 1)) (ls' := [gR 133, gI p, gI t, gI w, gI ((a + 1) + 1), gI i, gI (gb (TOLD σ0 i t ≠ -1))]) (by omega) (by decide) (by rfl) (by rfl) dX12_asked_231 rfl ?_
                                  refine v_iinc (pc' := 237) (x := i) (ls' := [gR 133, gI p, gI t, gI w, gI ((a + 1) + 1), gI (i + 1), gI (gb (TOLD σ0 i t ≠ -1))]) (by omega) (by decide) (by rfl) (by rfl) dX12_asked_234 rfl ?_
                                  refine w_goto (pc' := 100) dX12_asked_237 rfl ?_
                                  refine Wp.lose (ls' := [gR 133, gI p, gI t, gI w, gI ((a + 1) + 1), gI (i + 1), gX 1]) ⟨.inr rfl, ⟨.inr rfl, ⟨.inr rfl, ⟨.inr rfl, ⟨.inr rfl, ⟨.inr rfl, ⟨.inl rfl, trivial⟩⟩⟩⟩⟩⟩⟩ ?_
                                  exact ih_100 _ (by omega) (i + 1) ((a + 1) + 1) σ208 rfl (by omega) (by omega) (by rw [es, ← ha]; unfold rcT; (repeat' split) <;> omega) (by first | exact hqv | exact hq_208)
                              · skip
                                refine w_iconst (pc' := 224) (by decide) dX12_asked_223 rfl ?_
                                refine w_goto (pc' := 228) dX12_asked_224 rfl ?_
                                refine w_icmp_ne (pc' := 231) (t := 234) dX12_asked_228 rfl rfl (fun c_228 => ?_) (fun c_228 => ?_)
                                · skip
                                  refine v_iinc (pc' := 237) (x := i) (ls' := [gR 133, gI p, gI t, gI w, gI (a + 1), gI (i + 1), gI (gb (TOLD σ0 i t ≠ -1))]) (by omega) (by decide) (by rfl) (by rfl) dX12_asked_234 rfl ?_
                                  refine w_goto (pc' := 100) dX12_asked_237 rfl ?_
                                  refine Wp.lose (ls' := [gR 133, gI p, gI t, gI w, gI (a + 1), gI (i + 1), gX 1]) ⟨.inr rfl, ⟨.inr rfl, ⟨.inr rfl, ⟨.inr rfl, ⟨.inr rfl, ⟨.inr rfl, ⟨.inl rfl, trivial⟩⟩⟩⟩⟩⟩⟩ ?_
                                  exact ih_100 _ (by omega) (i + 1) (a + 1) σ208 rfl (by omega) (by omega) (by rw [es, ← ha]; unfold rcT; (repeat' split) <;> omega) (by first | exact hqv | exact hq_208)
                                · skip
                                  refine v_iinc (pc' := 234) (x := (a + 1)) (ls' := [gR 133, gI p, gI t, gI w, gI ((a + 1) + 1), gI i, gI (gb (TOLD σ0 i t ≠ -1))]) (by omega) (by decide) (by rfl) (by rfl) dX12_asked_231 rfl ?_
                                  refine v_iinc (pc' := 237) (x := i) (ls' := [gR 133, gI p, gI t, gI w, gI ((a + 1) + 1), gI (i + 1), gI (gb (TOLD σ0 i t ≠ -1))]) (by omega) (by decide) (by rfl) (by rfl) dX12_asked_234 rfl ?_
                                  refine w_goto (pc' := 100) dX12_asked_237 rfl ?_
                                  refine Wp.lose (ls' := [gR 133, gI p, gI t, gI w, gI ((a + 1) + 1), gI (i + 1), gX 1]) ⟨.inr rfl, ⟨.inr rfl, ⟨.inr rfl, ⟨.inr rfl, ⟨.inr rfl, ⟨.inr rfl, ⟨.inl rfl, trivial⟩⟩⟩⟩⟩⟩⟩ ?_
                                  exact ih_100 _ (by omega) (i + 1) ((a + 1) + 1) σ208 rfl (by omega) (by omega) (by rw [es, ← ha]; unfold rcT; (repeat' split) <;> omega) (by first | exact hqv | exact hq_208)
                            · skip
                              refine w_iload_n (pc' := 197) (i := 3) (by rfl) (by rfl) dX12_asked_196 rfl ?_
                              refine w_iconst (pc' := 198) (by decide) dX12_asked_197 rfl ?_
                              refine w_icmp_eq (pc' := 201) (t := 204) dX12_asked_198 rfl rfl (fun c_198 => ?_) (fun c_198 => ?_)
                              · skip
                                refine w_aload_n (pc' := 205) (i := 0) (by rfl) (by rfl) dX12_asked_204 rfl ?_
                                refine w_iload (pc' := 207) (by rfl) dX12_asked_205 rfl ?_
                                refine w_iload_n (pc' := 208) (i := 2) (by rfl) (by rfl) dX12_asked_207 rfl ?_
                                refine w_callV (pc' := 211) (d' := 4) (av := [gI i, gI t]) mi_mX12_judge lk_X12_537 rfl ci_X12 kd_133 rfl (Nat.le_of_ble_eq_true rfl) (Nat.le_of_ble_eq_true rfl) dX12_asked_208 rfl (q_judge hI hqv i t ⟨by omega, by omega⟩ rfl) (fun v_208 σ208 q_208 => ?_)
                                obtain ⟨rfl, hq_208, hr_208, hd_208, _, _, _, _⟩ := q_208
                                show Wp _ _ _ _ _ _ []
                                refine w_aload_n (pc' := 212) (i := 0) (by rfl) (by rfl) dX12_asked_211 rfl ?_
                                refine w_iload (pc' := 214) (by rfl) dX12_asked_212 rfl ?_
                                refine w_iload_n (pc' := 215) (i := 2) (by rfl) (by rfl) dX12_asked_214 rfl ?_
                                refine v_callVE (pc' := 218) (st' := [gI (STV σ0 i t)]) (d' := 3) (av := [gI i, gI t]) mi_mX12_stateOf lk_X12_540 rfl ci_X12 kd_133 rfl (Nat.le_of_ble_eq_true rfl) (Nat.le_of_ble_eq_true rfl) dX12_asked_215 rfl rfl (q_stateOf hI hq_208 i t ⟨by omega, by omega⟩ hr_208 hd_208) ?_
                                refine w_iload_n (pc' := 219) (i := 3) (by rfl) (by rfl) dX12_asked_218 rfl ?_
                                refine w_iconst (pc' := 220) (by decide) dX12_asked_219 rfl ?_
                                refine w_icmp_ne (pc' := 223) (t := 227) dX12_asked_220 rfl rfl (fun c_220 => ?_) (fun c_220 => ?_)
                                · skip
                                  refine w_iconst (pc' := 228) (by decide) dX12_asked_227 rfl ?_
                                  refine w_icmp_ne (pc' := 231) (t := 234) dX12_asked_228 rfl rfl (fun c_228 => ?_) (fun c_228 => ?_)
                                  · skip
                                    refine v_iinc (pc' := 237) (x := i) (ls' := [gR 133, gI p, gI t, gI w, gI (a + 1), gI (i + 1), gI (gb (TOLD σ0 i t ≠ -1))]) (by omega) (by decide) (by rfl) (by rfl) dX12_asked_234 rfl ?_
                                    refine w_goto (pc' := 100) dX12_asked_237 rfl ?_
                                    refine Wp.lose (ls' := [gR 133, gI p, gI t, gI w, gI (a + 1), gI (i + 1), gX 1]) ⟨.inr rfl, ⟨.inr rfl, ⟨.inr rfl, ⟨.inr rfl, ⟨.inr rfl, ⟨.inr rfl, ⟨.inl rfl, trivial⟩⟩⟩⟩⟩⟩⟩ ?_
                                    exact ih_100 _ (by omega) (i + 1) (a + 1) σ208 rfl (by omega) (by omega) (by rw [es, ← ha]; unfold rcT; (repeat' split) <;> omega) (by first | exact hqv | exact hq_208)
                                  · skip
                                    refine v_iinc (pc' := 234) (x := (a + 1)) (ls' := [gR 133, gI p, gI t, gI w, gI ((a + 1) + 1), gI i, gI (gb (TOLD σ0 i t ≠ -1))]) (by omega) (by decide) (by rfl) (by rfl) dX12_asked_231 rfl ?_
                                    refine v_iinc (pc' := 237) (x := i) (ls' := [gR 133, gI p, gI t, gI w, gI ((a + 1) + 1), gI (i + 1), gI (gb (TOLD σ0 i t ≠ -1))]) (by omega) (by decide) (by rfl) (by rfl) dX12_asked_234 rfl ?_
                                    refine w_goto (pc' := 100) dX12_asked_237 rfl ?_
                                    refine Wp.lose (ls' := [gR 133, gI p, gI t, gI w, gI ((a + 1) + 1), gI (i + 1), gX 1]) ⟨.inr rfl, ⟨.inr rfl, ⟨.inr rfl, ⟨.inr rfl, ⟨.inr rfl, ⟨.inr rfl, ⟨.inl rfl, trivial⟩⟩⟩⟩⟩⟩⟩ ?_
                                    exact ih_100 _ (by omega) (i + 1) ((a + 1) + 1) σ208 rfl (by omega) (by omega) (by rw [es, ← ha]; unfold rcT; (repeat' split) <;> omega) (by first | exact hqv | exact hq_208)
                                · skip
                                  refine w_iconst (pc' := 224) (by decide) dX12_asked_223 rfl ?_
                                  refine w_goto (pc' := 228) dX12_asked_224 rfl ?_
                                  refine w_icmp_ne (pc' := 231) (t := 234) dX12_asked_228 rfl rfl (fun c_228 => ?_) (fun c_228 => ?_)
                                  · skip
                                    refine v_iinc (pc' := 237) (x := i) (ls' := [gR 133, gI p, gI t, gI w, gI (a + 1), gI (i + 1), gI (gb (TOLD σ0 i t ≠ -1))]) (by omega) (by decide) (by rfl) (by rfl) dX12_asked_234 rfl ?_
                                    refine w_goto (pc' := 100) dX12_asked_237 rfl ?_
                                    refine Wp.lose (ls' := [gR 133, gI p, gI t, gI w, gI (a + 1), gI (i + 1), gX 1]) ⟨.inr rfl, ⟨.inr rfl, ⟨.inr rfl, ⟨.inr rfl, ⟨.inr rfl, ⟨.inr rfl, ⟨.inl rfl, trivial⟩⟩⟩⟩⟩⟩⟩ ?_
                                    exact ih_100 _ (by omega) (i + 1) (a + 1) σ208 rfl (by omega) (by omega) (by rw [es, ← ha]; unfold rcT; (repeat' split) <;> omega) (by first | exact hqv | exact hq_208)
                                  · skip
                                    refine v_iinc (pc' := 234) (x := (a + 1)) (ls' := [gR 133, gI p, gI t, gI w, gI ((a + 1) + 1), gI i, gI (gb (TOLD σ0 i t ≠ -1))]) (by omega) (by decide) (by rfl) (by rfl) dX12_asked_231 rfl ?_
                                    refine v_iinc (pc' := 237) (x := i) (ls' := [gR 133, gI p, gI t, gI w, gI ((a + 1) + 1), gI (i + 1), gI (gb (TOLD σ0 i t ≠ -1))]) (by omega) (by decide) (by rfl) (by rfl) dX12_asked_234 rfl ?_
                                    refine w_goto (pc' := 100) dX12_asked_237 rfl ?_
                                    refine Wp.lose (ls' := [gR 133, gI p, gI t, gI w, gI ((a + 1) + 1), gI (i + 1), gX 1]) ⟨.inr rfl, ⟨.inr rfl, ⟨.inr rfl, ⟨.inr rfl, ⟨.inr rfl, ⟨.inr rfl, ⟨.inl rfl, trivial⟩⟩⟩⟩⟩⟩⟩ ?_
                                    exact ih_100 _ (by omega) (i + 1) ((a + 1) + 1) σ208 rfl (by omega) (by omega) (by rw [es, ← ha]; unfold rcT; (repeat' split) <;> omega) (by first | exact hqv | exact hq_208)
                              · skip
                                refine w_goto (pc' := 234) dX12_asked_201 rfl ?_
                                refine v_iinc (pc' := 237) (x := i) (ls' := [gR 133, gI p, gI t, gI w, gI (a + 1), gI (i + 1), gI (gb (TOLD σ0 i t ≠ -1))]) (by omega) (by decide) (by rfl) (by rfl) dX12_asked_234 rfl ?_
                                refine w_goto (pc' := 100) dX12_asked_237 rfl ?_
                                refine Wp.lose (ls' := [gR 133, gI p, gI t, gI w, gI (a + 1), gI (i + 1), gX 1]) ⟨.inr rfl, ⟨.inr rfl, ⟨.inr rfl, ⟨.inr rfl, ⟨.inr rfl, ⟨.inr rfl, ⟨.inl rfl, trivial⟩⟩⟩⟩⟩⟩⟩ ?_
                                exact ih_100 _ (by omega) (i + 1) (a + 1) σv rfl (by omega) (by omega) (by rw [es, ← ha]; unfold rcT; (repeat' split) <;> omega) (by first | exact hqv | exact hq_208)
                          · skip
                            refine w_iload (pc' := 181) (by rfl) dX12_asked_179 rfl ?_
                            refine w_aload_n (pc' := 182) (i := 0) (by rfl) (by rfl) dX12_asked_181 rfl ?_
                            refine w_iload (pc' := 184) (by rfl) dX12_asked_182 rfl ?_
                            refine w_iload_n (pc' := 185) (i := 2) (by rfl) (by rfl) dX12_asked_184 rfl ?_
                            refine v_callVE (pc' := 188) (st' := [gI (LEAST σ0 i t), gI (a + 1)]) (d' := 0) (av := [gI i, gI t]) mi_mX12_leastOf lk_X12_509 rfl ci_X12 kd_133 rfl (Nat.le_of_ble_eq_true rfl) (Nat.le_of_ble_eq_true rfl) dX12_asked_185 rfl rfl (q_leastOf hI hqv i t ⟨by omega, by omega⟩) ?_
                            refine v_iadd (pc' := 189) (by have := hle (by omega); omega) dX12_asked_188 rfl ?_
                            refine w_istore (pc' := 191) (ls' := [gR 133, gI p, gI t, gI w, gI ((a + 1) + (LEAST σ0 i t)), gI i, gI (gb (TOLD σ0 i t ≠ -1))]) (by decide) (by rfl) dX12_asked_189 rfl ?_
                            refine w_iload_n (pc' := 192) (i := 3) (by rfl) (by rfl) dX12_asked_191 rfl ?_
                            refine w_iconst (pc' := 193) (by decide) dX12_asked_192 rfl ?_
                            refine w_icmp_eq (pc' := 196) (t := 204) dX12_asked_193 rfl rfl (fun c_193 => ?_) (fun c_193 => ?_)
                            · skip
                              refine w_aload_n (pc' := 205) (i := 0) (by rfl) (by rfl) dX12_asked_204 rfl ?_
                              refine w_iload (pc' := 207) (by rfl) dX12_asked_205 rfl ?_
                              refine w_iload_n (pc' := 208) (i := 2) (by rfl) (by rfl) dX12_asked_207 rfl ?_
                              refine w_callV (pc' := 211) (d' := 4) (av := [gI i, gI t]) mi_mX12_judge lk_X12_537 rfl ci_X12 kd_133 rfl (Nat.le_of_ble_eq_true rfl) (Nat.le_of_ble_eq_true rfl) dX12_asked_208 rfl (q_judge hI hqv i t ⟨by omega, by omega⟩ rfl) (fun v_208 σ208 q_208 => ?_)
                              obtain ⟨rfl, hq_208, hr_208, hd_208, _, _, _, _⟩ := q_208
                              show Wp _ _ _ _ _ _ []
                              refine w_aload_n (pc' := 212) (i := 0) (by rfl) (by rfl) dX12_asked_211 rfl ?_
                              refine w_iload (pc' := 214) (by rfl) dX12_asked_212 rfl ?_
                              refine w_iload_n (pc' := 215) (i := 2) (by rfl) (by rfl) dX12_asked_214 rfl ?_
                              refine v_callVE (pc' := 218) (st' := [gI (STV σ0 i t)]) (d' := 3) (av := [gI i, gI t]) mi_mX12_stateOf lk_X12_540 rfl ci_X12 kd_133 rfl (Nat.le_of_ble_eq_true rfl) (Nat.le_of_ble_eq_true rfl) dX12_asked_215 rfl rfl (q_stateOf hI hq_208 i t ⟨by omega, by omega⟩ hr_208 hd_208) ?_
                              refine w_iload_n (pc' := 219) (i := 3) (by rfl) (by rfl) dX12_asked_218 rfl ?_
                              refine w_iconst (pc' := 220) (by decide) dX12_asked_219 rfl ?_
                              refine w_icmp_ne (pc' := 223) (t := 227) dX12_asked_220 rfl rfl (fun c_220 => ?_) (fun c_220 => ?_)
                              · skip
                                refine w_iconst (pc' := 228) (by decide) dX12_asked_227 rfl ?_
                                refine w_icmp_ne (pc' := 231) (t := 234) dX12_asked_228 rfl rfl (fun c_228 => ?_) (fun c_228 => ?_)
                                · skip
                                  refine v_iinc (pc' := 237) (x := i) (ls' := [gR 133, gI p, gI t, gI w, gI ((a + 1) + (LEAST σ0 i t)), gI (i + 1), gI (gb (TOLD σ0 i t ≠ -1))]) (by omega) (by decide) (by rfl) (by rfl) dX12_asked_234 rfl ?_
                                  refine w_goto (pc' := 100) dX12_asked_237 rfl ?_
                                  refine Wp.lose (ls' := [gR 133, gI p, gI t, gI w, gI ((a + 1) + (LEAST σ0 i t)), gI (i + 1), gX 1]) ⟨.inr rfl, ⟨.inr rfl, ⟨.inr rfl, ⟨.inr rfl, ⟨.inr rfl, ⟨.inr rfl, ⟨.inl rfl, trivial⟩⟩⟩⟩⟩⟩⟩ ?_
                                  exact ih_100 _ (by omega) (i + 1) ((a + 1) + (LEAST σ0 i t)) σ208 rfl (by omega) (by omega) (by rw [es, ← ha]; unfold rcT; (repeat' split) <;> omega) (by first | exact hqv | exact hq_208)
                                · skip
                                  refine v_iinc (pc' := 234) (x := ((a + 1) + (LEAST σ0 i t))) (ls' := [gR 133, gI p, gI t, gI w, gI (((a + 1) + (LEAST σ0 i t)) + 1), gI i, gI (gb (TOLD σ0 i t ≠ -1))]) (by omega) (by decide) (by rfl) (by rfl) dX12_asked_231 rfl ?_
                                  refine v_iinc (pc' := 237) (x := i) (ls' := [gR 133, gI p, gI t, gI w, gI (((a + 1) + (LEAST σ0 i t)) + 1), gI (i + 1), gI (gb (TOLD σ0 i t ≠ -1))]) (by omega) (by decide) (by rfl) (by rfl) dX12_asked_234 rfl ?_
                                  refine w_goto (pc' := 100) dX12_asked_237 rfl ?_
                                  refine Wp.lose (ls' := [gR 133, gI p, gI t, gI w, gI (((a + 1) + (LEAST σ0 i t)) + 1), gI (i + 1), gX 1]) ⟨.inr rfl, ⟨.inr rfl, ⟨.inr rfl, ⟨.inr rfl, ⟨.inr rfl, ⟨.inr rfl, ⟨.inl rfl, trivial⟩⟩⟩⟩⟩⟩⟩ ?_
                                  exact ih_100 _ (by omega) (i + 1) (((a + 1) + (LEAST σ0 i t)) + 1) σ208 rfl (by omega) (by omega) (by rw [es, ← ha]; unfold rcT; (repeat' split) <;> omega) (by first | exact hqv | exact hq_208)
                              · skip
                                refine w_iconst (pc' := 224) (by decide) dX12_asked_223 rfl ?_
                                refine w_goto (pc' := 228) dX12_asked_224 rfl ?_
                                refine w_icmp_ne (pc' := 231) (t := 234) dX12_asked_228 rfl rfl (fun c_228 => ?_) (fun c_228 => ?_)
                                · skip
                                  refine v_iinc (pc' := 237) (x := i) (ls' := [gR 133, gI p, gI t, gI w, gI ((a + 1) + (LEAST σ0 i t)), gI (i + 1), gI (gb (TOLD σ0 i t ≠ -1))]) (by omega) (by decide) (by rfl) (by rfl) dX12_asked_234 rfl ?_
                                  refine w_goto (pc' := 100) dX12_asked_237 rfl ?_
                                  refine Wp.lose (ls' := [gR 133, gI p, gI t, gI w, gI ((a + 1) + (LEAST σ0 i t)), gI (i + 1), gX 1]) ⟨.inr rfl, ⟨.inr rfl, ⟨.inr rfl, ⟨.inr rfl, ⟨.inr rfl, ⟨.inr rfl, ⟨.inl rfl, trivial⟩⟩⟩⟩⟩⟩⟩ ?_
                                  exact ih_100 _ (by omega) (i + 1) ((a + 1) + (LEAST σ0 i t)) σ208 rfl (by omega) (by omega) (by rw [es, ← ha]; unfold rcT; (repeat' split) <;> omega) (by first | exact hqv | exact hq_208)
                                · skip
                                  refine v_iinc (pc' := 234) (x := ((a + 1) + (LEAST σ0 i t))) (ls' := [gR 133, gI p, gI t, gI w, gI (((a + 1) + (LEAST σ0 i t)) + 1), gI i, gI (gb (TOLD σ0 i t ≠ -1))]) (by omega) (by decide) (by rfl) (by rfl) dX12_asked_231 rfl ?_
                                  refine v_iinc (pc' := 237) (x := i) (ls' := [gR 133, gI p, gI t, gI w, gI (((a + 1) + (LEAST σ0 i t)) + 1), gI (i + 1), gI (gb (TOLD σ0 i t ≠ -1))]) (by omega) (by decide) (by rfl) (by rfl) dX12_asked_234 rfl ?_
                                  refine w_goto (pc' := 100) dX12_asked_237 rfl ?_
                                  refine Wp.lose (ls' := [gR 133, gI p, gI t, gI w, gI (((a + 1) + (LEAST σ0 i t)) + 1), gI (i + 1), gX 1]) ⟨.inr rfl, ⟨.inr rfl, ⟨.inr rfl, ⟨.inr rfl, ⟨.inr rfl, ⟨.inr rfl, ⟨.inl rfl, trivial⟩⟩⟩⟩⟩⟩⟩ ?_
                                  exact ih_100 _ (by omega) (i + 1) (((a + 1) + (LEAST σ0 i t)) + 1) σ208 rfl (by omega) (by omega) (by rw [es, ← ha]; unfold rcT; (repeat' split) <;> omega) (by first | exact hqv | exact hq_208)
                            · skip
                              refine w_iload_n (pc' := 197) (i := 3) (by rfl) (by rfl) dX12_asked_196 rfl ?_
                              refine w_iconst (pc' := 198) (by decide) dX12_asked_197 rfl ?_
                              refine w_icmp_eq (pc' := 201) (t := 204) dX12_asked_198 rfl rfl (fun c_198 => ?_) (fun c_198 => ?_)
                              · skip
                                refine w_aload_n (pc' := 205) (i := 0) (by rfl) (by rfl) dX12_asked_204 rfl ?_
                                refine w_iload (pc' := 207) (by rfl) dX12_asked_205 rfl ?_
                                refine w_iload_n (pc' := 208) (i := 2) (by rfl) (by rfl) dX12_asked_207 rfl ?_
                                refine w_callV (pc' := 211) (d' := 4) (av := [gI i, gI t]) mi_mX12_judge lk_X12_537 rfl ci_X12 kd_133 rfl (Nat.le_of_ble_eq_true rfl) (Nat.le_of_ble_eq_true rfl) dX12_asked_208 rfl (q_judge hI hqv i t ⟨by omega, by omega⟩ rfl) (fun v_208 σ208 q_208 => ?_)
                                obtain ⟨rfl, hq_208, hr_208, hd_208, _, _, _, _⟩ := q_208
                                show Wp _ _ _ _ _ _ []
                                refine w_aload_n (pc' := 212) (i := 0) (by rfl) (by rfl) dX12_asked_211 rfl ?_
                                refine w_iload (pc' := 214) (by rfl) dX12_asked_212 rfl ?_
                                refine w_iload_n (pc' := 215) (i := 2) (by rfl) (by rfl) dX12_asked_214 rfl ?_
                                refine v_callVE (pc' := 218) (st' := [gI (STV σ0 i t)]) (d' := 3) (av := [gI i, gI t]) mi_mX12_stateOf lk_X12_540 rfl ci_X12 kd_133 rfl (Nat.le_of_ble_eq_true rfl) (Nat.le_of_ble_eq_true rfl) dX12_asked_215 rfl rfl (q_stateOf hI hq_208 i t ⟨by omega, by omega⟩ hr_208 hd_208) ?_
                                refine w_iload_n (pc' := 219) (i := 3) (by rfl) (by rfl) dX12_asked_218 rfl ?_
                                refine w_iconst (pc' := 220) (by decide) dX12_asked_219 rfl ?_
                                refine w_icmp_ne (pc' := 223) (t := 227) dX12_asked_220 rfl rfl (fun c_220 => ?_) (fun c_220 => ?_)
                                · skip
                                  refine w_iconst (pc' := 228) (by decide) dX12_asked_227 rfl ?_
                                  refine w_icmp_ne (pc' := 231) (t := 234) dX12_asked_228 rfl rfl (fun c_228 => ?_) (fun c_228 => ?_)
                                  · skip
                                    refine v_iinc (pc' := 237) (x := i) (ls' := [gR 133, gI p, gI t, gI w, gI ((a + 1) + (LEAST σ0 i t)), gI (i + 1), gI (gb (TOLD σ0 i t ≠ -1))]) (by omega) (by decide) (by rfl) (by rfl) dX12_asked_234 rfl ?_
                                    refine w_goto (pc' := 100) dX12_asked_237 rfl ?_
                                    refine Wp.lose (ls' := [gR 133, gI p, gI t, gI w, gI ((a + 1) + (LEAST σ0 i t)), gI (i + 1), gX 1]) ⟨.inr rfl, ⟨.inr rfl, ⟨.inr rfl, ⟨.inr rfl, ⟨.inr rfl, ⟨.inr rfl, ⟨.inl rfl, trivial⟩⟩⟩⟩⟩⟩⟩ ?_
                                    exact ih_100 _ (by omega) (i + 1) ((a + 1) + (LEAST σ0 i t)) σ208 rfl (by omega) (by omega) (by rw [es, ← ha]; unfold rcT; (repeat' split) <;> omega) (by first | exact hqv | exact hq_208)
                                  · skip
                                    refine v_iinc (pc' := 234) (x := ((a + 1) + (LEAST σ0 i t))) (ls' := [gR 133, gI p, gI t, gI w, gI (((a + 1) + (LEAST σ0 i t)) + 1), gI i, gI (gb (TOLD σ0 i t ≠ -1))]) (by omega) (by decide) (by rfl) (by rfl) dX12_asked_231 rfl ?_
                                    refine v_iinc (pc' := 237) (x := i) (ls' := [gR 133, gI p, gI t, gI w, gI (((a + 1) + (LEAST σ0 i t)) + 1), gI (i + 1), gI (gb (TOLD σ0 i t ≠ -1))]) (by omega) (by decide) (by rfl) (by rfl) dX12_asked_234 rfl ?_
                                    refine w_goto (pc' := 100) dX12_asked_237 rfl ?_
                                    refine Wp.lose (ls' := [gR 133, gI p, gI t, gI w, gI (((a + 1) + (LEAST σ0 i t)) + 1), gI (i + 1), gX 1]) ⟨.inr rfl, ⟨.inr rfl, ⟨.inr rfl, ⟨.inr rfl, ⟨.inr rfl, ⟨.inr rfl, ⟨.inl rfl, trivial⟩⟩⟩⟩⟩⟩⟩ ?_
                                    exact ih_100 _ (by omega) (i + 1) (((a + 1) + (LEAST σ0 i t)) + 1) σ208 rfl (by omega) (by omega) (by rw [es, ← ha]; unfold rcT; (repeat' split) <;> omega) (by first | exact hqv | exact hq_208)
                                · skip
                                  refine w_iconst (pc' := 224) (by decide) dX12_asked_223 rfl ?_
                                  refine w_goto (pc' := 228) dX12_asked_224 rfl ?_
                                  refine w_icmp_ne (pc' := 231) (t := 234) dX12_asked_228 rfl rfl (fun c_228 => ?_) (fun c_228 => ?_)
                                  · skip
                                    refine v_iinc (pc' := 237) (x := i) (ls' := [gR 133, gI p, gI t, gI w, gI ((a + 1) + (LEAST σ0 i t)), gI (i + 1), gI (gb (TOLD σ0 i t ≠ -1))]) (by omega) (by decide) (by rfl) (by rfl) dX12_asked_234 rfl ?_
                                    refine w_goto (pc' := 100) dX12_asked_237 rfl ?_
                                    refine Wp.lose (ls' := [gR 133, gI p, gI t, gI w, gI ((a + 1) + (LEAST σ0 i t)), gI (i + 1), gX 1]) ⟨.inr rfl, ⟨.inr rfl, ⟨.inr rfl, ⟨.inr rfl, ⟨.inr rfl, ⟨.inr rfl, ⟨.inl rfl, trivial⟩⟩⟩⟩⟩⟩⟩ ?_
                                    exact ih_100 _ (by omega) (i + 1) ((a + 1) + (LEAST σ0 i t)) σ208 rfl (by omega) (by omega) (by rw [es, ← ha]; unfold rcT; (repeat' split) <;> omega) (by first | exact hqv | exact hq_208)
                                  · skip
                                    refine v_iinc (pc' := 234) (x := ((a + 1) + (LEAST σ0 i t))) (ls' := [gR 133, gI p, gI t, gI w, gI (((a + 1) + (LEAST σ0 i t)) + 1), gI i, gI (gb (TOLD σ0 i t ≠ -1))]) (by omega) (by decide) (by rfl) (by rfl) dX12_asked_231 rfl ?_
                                    refine v_iinc (pc' := 237) (x := i) (ls' := [gR 133, gI p, gI t, gI w, gI (((a + 1) + (LEAST σ0 i t)) + 1), gI (i + 1), gI (gb (TOLD σ0 i t ≠ -1))]) (by omega) (by decide) (by rfl) (by rfl) dX12_asked_234 rfl ?_
                                    refine w_goto (pc' := 100) dX12_asked_237 rfl ?_
                                    refine Wp.lose (ls' := [gR 133, gI p, gI t, gI w, gI (((a + 1) + (LEAST σ0 i t)) + 1), gI (i + 1), gX 1]) ⟨.inr rfl, ⟨.inr rfl, ⟨.inr rfl, ⟨.inr rfl, ⟨.inr rfl, ⟨.inr rfl, ⟨.inl rfl, trivial⟩⟩⟩⟩⟩⟩⟩ ?_
                                    exact ih_100 _ (by omega) (i + 1) (((a + 1) + (LEAST σ0 i t)) + 1) σ208 rfl (by omega) (by omega) (by rw [es, ← ha]; unfold rcT; (repeat' split) <;> omega) (by first | exact hqv | exact hq_208)
                              · skip
                                refine w_goto (pc' := 234) dX12_asked_201 rfl ?_
                                refine v_iinc (pc' := 237) (x := i) (ls' := [gR 133, gI p, gI t, gI w, gI ((a + 1) + (LEAST σ0 i t)), gI (i + 1), gI (gb (TOLD σ0 i t ≠ -1))]) (by omega) (by decide) (by rfl) (by rfl) dX12_asked_234 rfl ?_
                                refine w_goto (pc' := 100) dX12_asked_237 rfl ?_
                                refine Wp.lose (ls' := [gR 133, gI p, gI t, gI w, gI ((a + 1) + (LEAST σ0 i t)), gI (i + 1), gX 1]) ⟨.inr rfl, ⟨.inr rfl, ⟨.inr rfl, ⟨.inr rfl, ⟨.inr rfl, ⟨.inr rfl, ⟨.inl rfl, trivial⟩⟩⟩⟩⟩⟩⟩ ?_
                                exact ih_100 _ (by omega) (i + 1) ((a + 1) + (LEAST σ0 i t)) σv rfl (by omega) (by omega) (by rw [es, ← ha]; unfold rcT; (repeat' split) <;> omega) (by first | exact hqv | exact hq_208)
                      · skip
                        refine w_iload_n (pc' := 157) (i := 3) (by rfl) (by rfl) dX12_asked_156 rfl ?_
                        refine w_iconst (pc' := 158) (by decide) dX12_asked_157 rfl ?_
                        refine w_icmp_ne (pc' := 161) (t := 169) dX12_asked_158 rfl rfl (fun c_158 => ?_) (fun c_158 => ?_)
                        · skip
                          refine w_iload_n (pc' := 170) (i := 3) (by rfl) (by rfl) dX12_asked_169 rfl ?_
                          refine w_iconst (pc' := 171) (by decide) dX12_asked_170 rfl ?_
                          refine w_icmp_ne (pc' := 174) (t := 191) dX12_asked_171 rfl rfl (fun c_171 => ?_) (fun c_171 => ?_)
                          · skip
                            refine w_iload_n (pc' := 192) (i := 3) (by rfl) (by rfl) dX12_asked_191 rfl ?_
                            refine w_iconst (pc' := 193) (by decide) dX12_asked_192 rfl ?_
                            refine w_icmp_eq (pc' := 196) (t := 204) dX12_asked_193 rfl rfl (fun c_193 => ?_) (fun c_193 => ?_)
                            · skip
                              refine w_aload_n (pc' := 205) (i := 0) (by rfl) (by rfl) dX12_asked_204 rfl ?_
                              refine w_iload (pc' := 207) (by rfl) dX12_asked_205 rfl ?_
                              refine w_iload_n (pc' := 208) (i := 2) (by rfl) (by rfl) dX12_asked_207 rfl ?_
                              refine w_callV (pc' := 211) (d' := 4) (av := [gI i, gI t]) mi_mX12_judge lk_X12_537 rfl ci_X12 kd_133 rfl (Nat.le_of_ble_eq_true rfl) (Nat.le_of_ble_eq_true rfl) dX12_asked_208 rfl (q_judge hI hqv i t ⟨by omega, by omega⟩ rfl) (fun v_208 σ208 q_208 => ?_)
                              obtain ⟨rfl, hq_208, hr_208, hd_208, _, _, _, _⟩ := q_208
                              show Wp _ _ _ _ _ _ []
                              refine w_aload_n (pc' := 212) (i := 0) (by rfl) (by rfl) dX12_asked_211 rfl ?_
                              refine w_iload (pc' := 214) (by rfl) dX12_asked_212 rfl ?_
                              refine w_iload_n (pc' := 215) (i := 2) (by rfl) (by rfl) dX12_asked_214 rfl ?_
                              refine v_callVE (pc' := 218) (st' := [gI (STV σ0 i t)]) (d' := 3) (av := [gI i, gI t]) mi_mX12_stateOf lk_X12_540 rfl ci_X12 kd_133 rfl (Nat.le_of_ble_eq_true rfl) (Nat.le_of_ble_eq_true rfl) dX12_asked_215 rfl rfl (q_stateOf hI hq_208 i t ⟨by omega, by omega⟩ hr_208 hd_208) ?_
                              refine w_iload_n (pc' := 219) (i := 3) (by rfl) (by rfl) dX12_asked_218 rfl ?_
                              refine w_iconst (pc' := 220) (by decide) dX12_asked_219 rfl ?_
                              refine w_icmp_ne (pc' := 223) (t := 227) dX12_asked_220 rfl rfl (fun c_220 => ?_) (fun c_220 => ?_)
                              · skip
                                refine w_iconst (pc' := 228) (by decide) dX12_asked_227 rfl ?_
                                refine w_icmp_ne (pc' := 231) (t := 234) dX12_asked_228 rfl rfl (fun c_228 => ?_) (fun c_228 => ?_)
                                · skip
                                  refine v_iinc (pc' := 237) (x := i) (ls' := [gR 133, gI p, gI t, gI w, gI a, gI (i + 1), gI (gb (TOLD σ0 i t ≠ -1))]) (by omega) (by decide) (by rfl) (by rfl) dX12_asked_234 rfl ?_
                                  refine w_goto (pc' := 100) dX12_asked_237 rfl ?_
                                  refine Wp.lose (ls' := [gR 133, gI p, gI t, gI w, gI a, gI (i + 1), gX 1]) ⟨.inr rfl, ⟨.inr rfl, ⟨.inr rfl, ⟨.inr rfl, ⟨.inr rfl, ⟨.inr rfl, ⟨.inl rfl, trivial⟩⟩⟩⟩⟩⟩⟩ ?_
                                  exact ih_100 _ (by omega) (i + 1) a σ208 rfl (by omega) (by omega) (by rw [es, ← ha]; unfold rcT; (repeat' split) <;> omega) (by first | exact hqv | exact hq_208)
                                · skip
                                  refine v_iinc (pc' := 234) (x := a) (ls' := [gR 133, gI p, gI t, gI w, gI (a + 1), gI i, gI (gb (TOLD σ0 i t ≠ -1))]) (by omega) (by decide) (by rfl) (by rfl) dX12_asked_231 rfl ?_
                                  refine v_iinc (pc' := 237) (x := i) (ls' := [gR 133, gI p, gI t, gI w, gI (a + 1), gI (i + 1), gI (gb (TOLD σ0 i t ≠ -1))]) (by omega) (by decide) (by rfl) (by rfl) dX12_asked_234 rfl ?_
                                  refine w_goto (pc' := 100) dX12_asked_237 rfl ?_
                                  refine Wp.lose (ls' := [gR 133, gI p, gI t, gI w, gI (a + 1), gI (i + 1), gX 1]) ⟨.inr rfl, ⟨.inr rfl, ⟨.inr rfl, ⟨.inr rfl, ⟨.inr rfl, ⟨.inr rfl, ⟨.inl rfl, trivial⟩⟩⟩⟩⟩⟩⟩ ?_
                                  exact ih_100 _ (by omega) (i + 1) (a + 1) σ208 rfl (by omega) (by omega) (by rw [es, ← ha]; unfold rcT; (repeat' split) <;> omega) (by first | exact hqv | exact hq_208)
                              · skip
                                refine w_iconst (pc' := 224) (by decide) dX12_asked_223 rfl ?_
                                refine w_goto (pc' := 228) dX12_asked_224 rfl ?_
                                refine w_icmp_ne (pc' := 231) (t := 234) dX12_asked_228 rfl rfl (fun c_228 => ?_) (fun c_228 => ?_)
                                · skip
                                  refine v_iinc (pc' := 237) (x := i) (ls' := [gR 133, gI p, gI t, gI w, gI a, gI (i + 1), gI (gb (TOLD σ0 i t ≠ -1))]) (by omega) (by decide) (by rfl) (by rfl) dX12_asked_234 rfl ?_
                                  refine w_goto (pc' := 100) dX12_asked_237 rfl ?_
                                  refine Wp.lose (ls' := [gR 133, gI p, gI t, gI w, gI a, gI (i + 1), gX 1]) ⟨.inr rfl, ⟨.inr rfl, ⟨.inr rfl, ⟨.inr rfl, ⟨.inr rfl, ⟨.inr rfl, ⟨.inl rfl, trivial⟩⟩⟩⟩⟩⟩⟩ ?_
                                  exact ih_100 _ (by omega) (i + 1) a σ208 rfl (by omega) (by omega) (by rw [es, ← ha]; unfold rcT; (repeat' split) <;> omega) (by first | exact hqv | exact hq_208)
                                · skip
                                  refine v_iinc (pc' := 234) (x := a) (ls' := [gR 133, gI p, gI t, gI w, gI (a + 1), gI i, gI (gb (TOLD σ0 i t ≠ -1))]) (by omega) (by decide) (by rfl) (by rfl) dX12_asked_231 rfl ?_
                                  refine v_iinc (pc' := 237) (x := i) (ls' := [gR 133, gI p, gI t, gI w, gI (a + 1), gI (i + 1), gI (gb (TOLD σ0 i t ≠ -1))]) (by omega) (by decide) (by rfl) (by rfl) dX12_asked_234 rfl ?_
                                  refine w_goto (pc' := 100) dX12_asked_237 rfl ?_
                                  refine Wp.lose (ls' := [gR 133, gI p, gI t, gI w, gI (a + 1), gI (i + 1), gX 1]) ⟨.inr rfl, ⟨.inr rfl, ⟨.inr rfl, ⟨.inr rfl, ⟨.inr rfl, ⟨.inr rfl, ⟨.inl rfl, trivial⟩⟩⟩⟩⟩⟩⟩ ?_
                                  exact ih_100 _ (by omega) (i + 1) (a + 1) σ208 rfl (by omega) (by omega) (by rw [es, ← ha]; unfold rcT; (repeat' split) <;> omega) (by first | exact hqv | exact hq_208)
                            · skip
                              refine w_iload_n (pc' := 197) (i := 3) (by rfl) (by rfl) dX12_asked_196 rfl ?_
                              refine w_iconst (pc' := 198) (by decide) dX12_asked_197 rfl ?_
                              refine w_icmp_eq (pc' := 201) (t := 204) dX12_asked_198 rfl rfl (fun c_198 => ?_) (fun c_198 => ?_)
                              · skip
                                refine w_aload_n (pc' := 205) (i := 0) (by rfl) (by rfl) dX12_asked_204 rfl ?_
                                refine w_iload (pc' := 207) (by rfl) dX12_asked_205 rfl ?_
                                refine w_iload_n (pc' := 208) (i := 2) (by rfl) (by rfl) dX12_asked_207 rfl ?_
                                refine w_callV (pc' := 211) (d' := 4) (av := [gI i, gI t]) mi_mX12_judge lk_X12_537 rfl ci_X12 kd_133 rfl (Nat.le_of_ble_eq_true rfl) (Nat.le_of_ble_eq_true rfl) dX12_asked_208 rfl (q_judge hI hqv i t ⟨by omega, by omega⟩ rfl) (fun v_208 σ208 q_208 => ?_)
                                obtain ⟨rfl, hq_208, hr_208, hd_208, _, _, _, _⟩ := q_208
                                show Wp _ _ _ _ _ _ []
                                refine w_aload_n (pc' := 212) (i := 0) (by rfl) (by rfl) dX12_asked_211 rfl ?_
                                refine w_iload (pc' := 214) (by rfl) dX12_asked_212 rfl ?_
                                refine w_iload_n (pc' := 215) (i := 2) (by rfl) (by rfl) dX12_asked_214 rfl ?_
                                refine v_callVE (pc' := 218) (st' := [gI (STV σ0 i t)]) (d' := 3) (av := [gI i, gI t]) mi_mX12_stateOf lk_X12_540 rfl ci_X12 kd_133 rfl (Nat.le_of_ble_eq_true rfl) (Nat.le_of_ble_eq_true rfl) dX12_asked_215 rfl rfl (q_stateOf hI hq_208 i t ⟨by omega, by omega⟩ hr_208 hd_208) ?_
                                refine w_iload_n (pc' := 219) (i := 3) (by rfl) (by rfl) dX12_asked_218 rfl ?_
                                refine w_iconst (pc' := 220) (by decide) dX12_asked_219 rfl ?_
                                refine w_icmp_ne (pc' := 223) (t := 227) dX12_asked_220 rfl rfl (fun c_220 => ?_) (fun c_220 => ?_)
                                · skip
                                  refine w_iconst (pc' := 228) (by decide) dX12_asked_227 rfl ?_
                                  refine w_icmp_ne (pc' := 231) (t := 234) dX12_asked_228 rfl rfl (fun c_228 => ?_) (fun c_228 => ?_)
                                  · skip
                                    refine v_iinc (pc' := 237) (x := i) (ls' := [gR 133, gI p, gI t, gI w, gI a, gI (i + 1), gI (gb (TOLD σ0 i t ≠ -1))]) (by omega) (by decide) (by rfl) (by rfl) dX12_asked_234 rfl ?_
                                    refine w_goto (pc' := 100) dX12_asked_237 rfl ?_
                                    refine Wp.lose (ls' := [gR 133, gI p, gI t, gI w, gI a, gI (i + 1), gX 1]) ⟨.inr rfl, ⟨.inr rfl, ⟨.inr rfl, ⟨.inr rfl, ⟨.inr rfl, ⟨.inr rfl, ⟨.inl rfl, trivial⟩⟩⟩⟩⟩⟩⟩ ?_
                                    exact ih_100 _ (by omega) (i + 1) a σ208 rfl (by omega) (by omega) (by rw [es, ← ha]; unfold rcT; (repeat' split) <;> omega) (by first | exact hqv | exact hq_208)
                                  · skip
                                    refine v_iinc (pc' := 234) (x := a) (ls' := [gR 133, gI p, gI t, gI w, gI (a + 1), gI i, gI (gb (TOLD σ0 i t ≠ -1))]) (by omega) (by decide) (by rfl) (by rfl) dX12_asked_231 rfl ?_
                                    refine v_iinc (pc' := 237) (x := i) (ls' := [gR 133, gI p, gI t, gI w, gI (a + 1), gI (i + 1), gI (gb (TOLD σ0 i t ≠ -1))]) (by omega) (by decide) (by rfl) (by rfl) dX12_asked_234 rfl ?_
                                    refine w_goto (pc' := 100) dX12_asked_237 rfl ?_
                                    refine Wp.lose (ls' := [gR 133, gI p, gI t, gI w, gI (a + 1), gI (i + 1), gX 1]) ⟨.inr rfl, ⟨.inr rfl, ⟨.inr rfl, ⟨.inr rfl, ⟨.inr rfl, ⟨.inr rfl, ⟨.inl rfl, trivial⟩⟩⟩⟩⟩⟩⟩ ?_
                                    exact ih_100 _ (by omega) (i + 1) (a + 1) σ208 rfl (by omega) (by omega) (by rw [es, ← ha]; unfold rcT; (repeat' split) <;> omega) (by first | exact hqv | exact hq_208)
                                · skip
                                  refine w_iconst (pc' := 224) (by decide) dX12_asked_223 rfl ?_
                                  refine w_goto (pc' := 228) dX12_asked_224 rfl ?_
                                  refine w_icmp_ne (pc' := 231) (t := 234) dX12_asked_228 rfl rfl (fun c_228 => ?_) (fun c_228 => ?_)
                                  · skip
                                    refine v_iinc (pc' := 237) (x := i) (ls' := [gR 133, gI p, gI t, gI w, gI a, gI (i + 1), gI (gb (TOLD σ0 i t ≠ -1))]) (by omega) (by decide) (by rfl) (by rfl) dX12_asked_234 rfl ?_
                                    refine w_goto (pc' := 100) dX12_asked_237 rfl ?_
                                    refine Wp.lose (ls' := [gR 133, gI p, gI t, gI w, gI a, gI (i + 1), gX 1]) ⟨.inr rfl, ⟨.inr rfl, ⟨.inr rfl, ⟨.inr rfl, ⟨.inr rfl, ⟨.inr rfl, ⟨.inl rfl, trivial⟩⟩⟩⟩⟩⟩⟩ ?_
                                    exact ih_100 _ (by omega) (i + 1) a σ208 rfl (by omega) (by omega) (by rw [es, ← ha]; unfold rcT; (repeat' split) <;> omega) (by first | exact hqv | exact hq_208)
                                  · skip
                                    refine v_iinc (pc' := 234) (x := a) (ls' := [gR 133, gI p, gI t, gI w, gI (a + 1), gI i, gI (gb (TOLD σ0 i t ≠ -1))]) (by omega) (by decide) (by rfl) (by rfl) dX12_asked_231 rfl ?_
                                    refine v_iinc (pc' := 237) (x := i) (ls' := [gR 133, gI p, gI t, gI w, gI (a + 1), gI (i + 1), gI (gb (TOLD σ0 i t ≠ -1))]) (by omega) (by decide) (by rfl) (by rfl) dX12_asked_234 rfl ?_
                                    refine w_goto (pc' := 100) dX12_asked_237 rfl ?_
                                    refine Wp.lose (ls' := [gR 133, gI p, gI t, gI w, gI (a + 1), gI (i + 1), gX 1]) ⟨.inr rfl, ⟨.inr rfl, ⟨.inr rfl, ⟨.inr rfl, ⟨.inr rfl, ⟨.inr rfl, ⟨.inl rfl, trivial⟩⟩⟩⟩⟩⟩⟩ ?_
                                    exact ih_100 _ (by omega) (i + 1) (a + 1) σ208 rfl (by omega) (by omega) (by rw [es, ← ha]; unfold rcT; (repeat' split) <;> omega) (by first | exact hqv | exact hq_208)
                              · skip
                                refine w_goto (pc' := 234) dX12_asked_201 rfl ?_
                                refine v_iinc (pc' := 237) (x := i) (ls' := [gR 133, gI p, gI t, gI w, gI a, gI (i + 1), gI (gb (TOLD σ0 i t ≠ -1))]) (by omega) (by decide) (by rfl) (by rfl) dX12_asked_234 rfl ?_
                                refine w_goto (pc' := 100) dX12_asked_237 rfl ?_
                                refine Wp.lose (ls' := [gR 133, gI p, gI t, gI w, gI a, gI (i + 1), gX 1]) ⟨.inr rfl, ⟨.inr rfl, ⟨.inr rfl, ⟨.inr rfl, ⟨.inr rfl, ⟨.inr rfl, ⟨.inl rfl, trivial⟩⟩⟩⟩⟩⟩⟩ ?_
                                exact ih_100 _ (by omega) (i + 1) a σv rfl (by omega) (by omega) (by rw [es, ← ha]; unfold rcT; (repeat' split) <;> omega) (by first | exact hqv | exact hq_208)
                          · skip
                            refine w_iload (pc' := 176) (by rfl) dX12_asked_174 rfl ?_
                            refine v_if_eqB (pc' := 179) (t := 191) dX12_asked_176 rfl rfl (fun c_176 => ?_) (fun c_176 => ?_)
                            · skip
                              refine w_iload_n (pc' := 192) (i := 3) (by rfl) (by rfl) dX12_asked_191 rfl ?_
                              refine w_iconst (pc' := 193) (by decide) dX12_asked_192 rfl ?_
                              refine w_icmp_eq (pc' := 196) (t := 204) dX12_asked_193 rfl rfl (fun c_193 => ?_) (fun c_193 => ?_)
                              · skip
                                refine w_aload_n (pc' := 205) (i := 0) (by rfl) (by rfl) dX12_asked_204 rfl ?_
                                refine w_iload (pc' := 207) (by rfl) dX12_asked_205 rfl ?_
                                refine w_iload_n (pc' := 208) (i := 2) (by rfl) (by rfl) dX12_asked_207 rfl ?_
                                refine w_callV (pc' := 211) (d' := 4) (av := [gI i, gI t]) mi_mX12_judge lk_X12_537 rfl ci_X12 kd_133 rfl (Nat.le_of_ble_eq_true rfl) (Nat.le_of_ble_eq_true rfl) dX12_asked_208 rfl (q_judge hI hqv i t ⟨by omega, by omega⟩ rfl) (fun v_208 σ208 q_208 => ?_)
                                obtain ⟨rfl, hq_208, hr_208, hd_208, _, _, _, _⟩ := q_208
                                show Wp _ _ _ _ _ _ []
                                refine w_aload_n (pc' := 212) (i := 0) (by rfl) (by rfl) dX12_asked_211 rfl ?_
                                refine w_iload (pc' := 214) (by rfl) dX12_asked_212 rfl ?_
                                refine w_iload_n (pc' := 215) (i := 2) (by rfl) (by rfl) dX12_asked_214 rfl ?_
                                refine v_callVE (pc' := 218) (st' := [gI (STV σ0 i t)]) (d' := 3) (av := [gI i, gI t]) mi_mX12_stateOf lk_X12_540 rfl ci_X12 kd_133 rfl (Nat.le_of_ble_eq_true rfl) (Nat.le_of_ble_eq_true rfl) dX12_asked_215 rfl rfl (q_stateOf hI hq_208 i t ⟨by omega, by omega⟩ hr_208 hd_208) ?_
                                refine w_iload_n (pc' := 219) (i := 3) (by rfl) (by rfl) dX12_asked_218 rfl ?_
                                refine w_iconst (pc' := 220) (by decide) dX12_asked_219 rfl ?_
                                refine w_icmp_ne (pc' := 223) (t := 227) dX12_asked_220 rfl rfl (fun c_220 => ?_) (fun c_220 => ?_)
                                · skip
                                  refine w_iconst (pc' := 228) (by decide) dX12_asked_227 rfl ?_
                                  refine w_icmp_ne (pc' := 231) (t := 234) dX12_asked_228 rfl rfl (fun c_228 => ?_) (fun c_228 => ?_)
                                  · skip
                                    refine v_iinc (pc' := 237) (x := i) (ls' := [gR 133, gI p, gI t, gI w, gI a, gI (i + 1), gI (gb (TOLD σ0 i t ≠ -1))]) (by omega) (by decide) (by rfl) (by rfl) dX12_asked_234 rfl ?_
                                    refine w_goto (pc' := 100) dX12_asked_237 rfl ?_
                                    refine Wp.lose (ls' := [gR 133, gI p, gI t, gI w, gI a, gI (i + 1), gX 1]) ⟨.inr rfl, ⟨.inr rfl, ⟨.inr rfl, ⟨.inr rfl, ⟨.inr rfl, ⟨.inr rfl, ⟨.inl rfl, trivial⟩⟩⟩⟩⟩⟩⟩ ?_
                                    exact ih_100 _ (by omega) (i + 1) a σ208 rfl (by omega) (by omega) (by rw [es, ← ha]; unfold rcT; (repeat' split) <;> omega) (by first | exact hqv | exact hq_208)
                                  · skip
                                    refine v_iinc (pc' := 234) (x := a) (ls' := [gR 133, gI p, gI t, gI w, gI (a + 1), gI i, gI (gb (TOLD σ0 i t ≠ -1))]) (by omega) (by decide) (by rfl) (by rfl) dX12_asked_231 rfl ?_
                                    refine v_iinc (pc' := 237) (x := i) (ls' := [gR 133, gI p, gI t, gI w, gI (a + 1), gI (i + 1), gI (gb (TOLD σ0 i t ≠ -1))]) (by omega) (by decide) (by rfl) (by rfl) dX12_asked_234 rfl ?_
                                    refine w_goto (pc' := 100) dX12_asked_237 rfl ?_
                                    refine Wp.lose (ls' := [gR 133, gI p, gI t, gI w, gI (a + 1), gI (i + 1), gX 1]) ⟨.inr rfl, ⟨.inr rfl, ⟨.inr rfl, ⟨.inr rfl, ⟨.inr rfl, ⟨.inr rfl, ⟨.inl rfl, trivial⟩⟩⟩⟩⟩⟩⟩ ?_
                                    exact ih_100 _ (by omega) (i + 1) (a + 1) σ208 rfl (by omega) (by omega) (by rw [es, ← ha]; unfold rcT; (repeat' split) <;> omega) (by first | exact hqv | exact hq_208)
                                · skip
                                  refine w_iconst (pc' := 224) (by decide) dX12_asked_223 rfl ?_
                                  refine w_goto (pc' := 228) dX12_asked_224 rfl ?_
                                  refine w_icmp_ne (pc' := 231) (t := 234) dX12_asked_228 rfl rfl (fun c_228 => ?_) (fun c_228 => ?_)
                                  · skip
                                    refine v_iinc (pc' := 237) (x := i) (ls' := [gR 133, gI p, gI t, gI w, gI a, gI (i + 1), gI (gb (TOLD σ0 i t ≠ -1))]) (by omega) (by decide) (by rfl) (by rfl) dX12_asked_234 rfl ?_
                                    refine w_goto (pc' := 100) dX12_asked_237 rfl ?_
                                    refine Wp.lose (ls' := [gR 133, gI p, gI t, gI w, gI a, gI (i + 1), gX 1]) ⟨.inr rfl, ⟨.inr rfl, ⟨.inr rfl, ⟨.inr rfl, ⟨.inr rfl, ⟨.inr rfl, ⟨.inl rfl, trivial⟩⟩⟩⟩⟩⟩⟩ ?_
                                    exact ih_100 _ (by omega) (i + 1) a σ208 rfl (by omega) (by omega) (by rw [es, ← ha]; unfold rcT; (repeat' split) <;> omega) (by first | exact hqv | exact hq_208)
                                  · skip
                                    refine v_iinc (pc' := 234) (x := a) (ls' := [gR 133, gI p, gI t, gI w, gI (a + 1), gI i, gI (gb (TOLD σ0 i t ≠ -1))]) (by omega) (by decide) (by rfl) (by rfl) dX12_asked_231 rfl ?_
                                    refine v_iinc (pc' := 237) (x := i) (ls' := [gR 133, gI p, gI t, gI w, gI (a + 1), gI (i + 1), gI (gb (TOLD σ0 i t ≠ -1))]) (by omega) (by decide) (by rfl) (by rfl) dX12_asked_234 rfl ?_
                                    refine w_goto (pc' := 100) dX12_asked_237 rfl ?_
                                    refine Wp.lose (ls' := [gR 133, gI p, gI t, gI w, gI (a + 1), gI (i + 1), gX 1]) ⟨.inr rfl, ⟨.inr rfl, ⟨.inr rfl, ⟨.inr rfl, ⟨.inr rfl, ⟨.inr rfl, ⟨.inl rfl, trivial⟩⟩⟩⟩⟩⟩⟩ ?_
                                    exact ih_100 _ (by omega) (i + 1) (a + 1) σ208 rfl (by omega) (by omega) (by rw [es, ← ha]; unfold rcT; (repeat' split) <;> omega) (by first | exact hqv | exact hq_208)
                              · skip
                                refine w_iload_n (pc' := 197) (i := 3) (by rfl) (by rfl) dX12_asked_196 rfl ?_
                                refine w_iconst (pc' := 198) (by decide) dX12_asked_197 rfl ?_
                                refine w_icmp_eq (pc' := 201) (t := 204) dX12_asked_198 rfl rfl (fun c_198 => ?_) (fun c_198 => ?_)
                                · skip
                                  refine w_aload_n (pc' := 205) (i := 0) (by rfl) (by rfl) dX12_asked_204 rfl ?_
                                  refine w_iload (pc' := 207) (by rfl) dX12_asked_205 rfl ?_
                                  refine w_iload_n (pc' := 208) (i := 2) (by rfl) (by rfl) dX12_asked_207 rfl ?_
                                  refine w_callV (pc' := 211) (d' := 4) (av := [gI i, gI t]) mi_mX12_judge lk_X12_537 rfl ci_X12 kd_133 rfl (Nat.le_of_ble_eq_true rfl) (Nat.le_of_ble_eq_true rfl) dX12_asked_208 rfl (q_judge hI hqv i t ⟨by omega, by omega⟩ rfl) (fun v_208 σ208 q_208 => ?_)
                                  obtain ⟨rfl, hq_208, hr_208, hd_208, _, _, _, _⟩ := q_208
                                  show Wp _ _ _ _ _ _ []
                                  refine w_aload_n (pc' := 212) (i := 0) (by rfl) (by rfl) dX12_asked_211 rfl ?_
                                  refine w_iload (pc' := 214) (by rfl) dX12_asked_212 rfl ?_
                                  refine w_iload_n (pc' := 215) (i := 2) (by rfl) (by rfl) dX12_asked_214 rfl ?_
                                  refine v_callVE (pc' := 218) (st' := [gI (STV σ0 i t)]) (d' := 3) (av := [gI i, gI t]) mi_mX12_stateOf lk_X12_540 rfl ci_X12 kd_133 rfl (Nat.le_of_ble_eq_true rfl) (Nat.le_of_ble_eq_true rfl) dX12_asked_215 rfl rfl (q_stateOf hI hq_208 i t ⟨by omega, by omega⟩ hr_208 hd_208) ?_
                                  refine w_iload_n (pc' := 219) (i := 3) (by rfl) (by rfl) dX12_asked_218 rfl ?_
                                  refine w_iconst (pc' := 220) (by decide) dX12_asked_219 rfl ?_
                                  refine w_icmp_ne (pc' := 223) (t := 227) dX12_asked_220 rfl rfl (fun c_220 => ?_) (fun c_220 => ?_)
                                  · skip
                                    refine w_iconst (pc' := 228) (by decide) dX12_asked_227 rfl ?_
                                    refine w_icmp_ne (pc' := 231) (t := 234) dX12_asked_228 rfl rfl (fun c_228 => ?_) (fun c_228 => ?_)
                                    · skip
                                      refine v_iinc (pc' := 237) (x := i) (ls' := [gR 133, gI p, gI t, gI w, gI a, gI (i + 1), gI (gb (TOLD σ0 i t ≠ -1))]) (by omega) (by decide) (by rfl) (by rfl) dX12_asked_234 rfl ?_
                                      refine w_goto (pc' := 100) dX12_asked_237 rfl ?_
                                      refine Wp.lose (ls' := [gR 133, gI p, gI t, gI w, gI a, gI (i + 1), gX 1]) ⟨.inr rfl, ⟨.inr rfl, ⟨.inr rfl, ⟨.inr rfl, ⟨.inr rfl, ⟨.inr rfl, ⟨.inl rfl, trivial⟩⟩⟩⟩⟩⟩⟩ ?_
                                      exact ih_100 _ (by omega) (i + 1) a σ208 rfl (by omega) (by omega) (by rw [es, ← ha]; unfold rcT; (repeat' split) <;> omega) (by first | exact hqv | exact hq_208)
                                    · skip
                                      refine v_iinc (pc' := 234) (x := a) (ls' := [gR 133, gI p, gI t, gI w, gI (a + 1), gI i, gI (gb (TOLD σ0 i t ≠ -1))]) (by omega) (by decide) (by rfl) (by rfl) dX12_asked_231 rfl ?_
                                      refine v_iinc (pc' := 237) (x := i) (ls' := [gR 133, gI p, gI t, gI w, gI (a + 1), gI (i + 1), gI (gb (TOLD σ0 i t ≠ -1))]) (by omega) (by decide) (by rfl) (by rfl) dX12_asked_234 rfl ?_
                                      refine w_goto (pc' := 100) dX12_asked_237 rfl ?_
                                      refine Wp.lose (ls' := [gR 133, gI p, gI t, gI w, gI (a + 1), gI (i + 1), gX 1]) ⟨.inr rfl, ⟨.inr rfl, ⟨.inr rfl, ⟨.inr rfl, ⟨.inr rfl, ⟨.inr rfl, ⟨.inl rfl, trivial⟩⟩⟩⟩⟩⟩⟩ ?_
                                      exact ih_100 _ (by omega) (i + 1) (a + 1) σ208 rfl (by omega) (by omega) (by rw [es, ← ha]; unfold rcT; (repeat' split) <;> omega) (by first | exact hqv | exact hq_208)
                                  · skip
                                    refine w_iconst (pc' := 224) (by decide) dX12_asked_223 rfl ?_
                                    refine w_goto (pc' := 228) dX12_asked_224 rfl ?_
                                    refine w_icmp_ne (pc' := 231) (t := 234) dX12_asked_228 rfl rfl (fun c_228 => ?_) (fun c_228 => ?_)
                                    · skip
                                      refine v_iinc (pc' := 237) (x := i) (ls' := [gR 133, gI p, gI t, gI w, gI a, gI (i + 1), gI (gb (TOLD σ0 i t ≠ -1))]) (by omega) (by decide) (by rfl) (by rfl) dX12_asked_234 rfl ?_
                                      refine w_goto (pc' := 100) dX12_asked_237 rfl ?_
                                      refine Wp.lose (ls' := [gR 133, gI p, gI t, gI w, gI a, gI (i + 1), gX 1]) ⟨.inr rfl, ⟨.inr rfl, ⟨.inr rfl, ⟨.inr rfl, ⟨.inr rfl, ⟨.inr rfl, ⟨.inl rfl, trivial⟩⟩⟩⟩⟩⟩⟩ ?_
                                      exact ih_100 _ (by omega) (i + 1) a σ208 rfl (by omega) (by omega) (by rw [es, ← ha]; unfold rcT; (repeat' split) <;> omega) (by first | exact hqv | exact hq_208)
                                    · skip
                                      refine v_iinc (pc' := 234) (x := a) (ls' := [gR 133, gI p, gI t, gI w, gI (a + 1), gI i, gI (gb (TOLD σ0 i t ≠ -1))]) (by omega) (by decide) (by rfl) (by rfl) dX12_asked_231 rfl ?_
                                      refine v_iinc (pc' := 237) (x := i) (ls' := [gR 133, gI p, gI t, gI w, gI (a + 1), gI (i + 1), gI (gb (TOLD σ0 i t ≠ -1))]) (by omega) (by decide) (by rfl) (by rfl) dX12_asked_234 rfl ?_
                                      refine w_goto (pc' := 100) dX12_asked_237 rfl ?_
                                      refine Wp.lose (ls' := [gR 133, gI p, gI t, gI w, gI (a + 1), gI (i + 1), gX 1]) ⟨.inr rfl, ⟨.inr rfl, ⟨.inr rfl, ⟨.inr rfl, ⟨.inr rfl, ⟨.inr rfl, ⟨.inl rfl, trivial⟩⟩⟩⟩⟩⟩⟩ ?_
                                      exact ih_100 _ (by omega) (i + 1) (a + 1) σ208 rfl (by omega) (by omega) (by rw [es, ← ha]; unfold rcT; (repeat' split) <;> omega) (by first | exact hqv | exact hq_208)
                                · skip
                                  refine w_goto (pc' := 234) dX12_asked_201 rfl ?_
                                  refine v_iinc (pc' := 237) (x := i) (ls' := [gR 133, gI p, gI t, gI w, gI a, gI (i + 1), gI (gb (TOLD σ0 i t ≠ -1))]) (by omega) (by decide) (by rfl) (by rfl) dX12_asked_234 rfl ?_
                                  refine w_goto (pc' := 100) dX12_asked_237 rfl ?_
                                  refine Wp.lose (ls' := [gR 133, gI p, gI t, gI w, gI a, gI (i + 1), gX 1]) ⟨.inr rfl, ⟨.inr rfl, ⟨.inr rfl, ⟨.inr rfl, ⟨.inr rfl, ⟨.inr rfl, ⟨.inl rfl, trivial⟩⟩⟩⟩⟩⟩⟩ ?_
                                  exact ih_100 _ (by omega) (i + 1) a σv rfl (by omega) (by omega) (by rw [es, ← ha]; unfold rcT; (repeat' split) <;> omega) (by first | exact hqv | exact hq_208)
                            · skip
                              refine w_iload (pc' := 181) (by rfl) dX12_asked_179 rfl ?_
                              refine w_aload_n (pc' := 182) (i := 0) (by rfl) (by rfl) dX12_asked_181 rfl ?_
                              refine w_iload (pc' := 184) (by rfl) dX12_asked_182 rfl ?_
                              refine w_iload_n (pc' := 185) (i := 2) (by rfl) (by rfl) dX12_asked_184 rfl ?_
                              refine v_callVE (pc' := 188) (st' := [gI (LEAST σ0 i t), gI a]) (d' := 0) (av := [gI i, gI t]) mi_mX12_leastOf lk_X12_509 rfl ci_X12 kd_133 rfl (Nat.le_of_ble_eq_true rfl) (Nat.le_of_ble_eq_true rfl) dX12_asked_185 rfl rfl (q_leastOf hI hqv i t ⟨by omega, by omega⟩) ?_
                              refine v_iadd (pc' := 189) (by have := hle (by omega); omega) dX12_asked_188 rfl ?_
                              refine w_istore (pc' := 191) (ls' := [gR 133, gI p, gI t, gI w, gI (a + (LEAST σ0 i t)), gI i, gI (gb (TOLD σ0 i t ≠ -1))]) (by decide) (by rfl) dX12_asked_189 rfl ?_
                              refine w_iload_n (pc' := 192) (i := 3) (by rfl) (by rfl) dX12_asked_191 rfl ?_
                              refine w_iconst (pc' := 193) (by decide) dX12_asked_192 rfl ?_
                              refine w_icmp_eq (pc' := 196) (t := 204) dX12_asked_193 rfl rfl (fun c_193 => ?_) (fun c_193 => ?_)
                              · skip
                                refine w_aload_n (pc' := 205) (i := 0) (by rfl) (by rfl) dX12_asked_204 rfl ?_
                                refine w_iload (pc' := 207) (by rfl) dX12_asked_205 rfl ?_
                                refine w_iload_n (pc' := 208) (i := 2) (by rfl) (by rfl) dX12_asked_207 rfl ?_
                                refine w_callV (pc' := 211) (d' := 4) (av := [gI i, gI t]) mi_mX12_judge lk_X12_537 rfl ci_X12 kd_133 rfl (Nat.le_of_ble_eq_true rfl) (Nat.le_of_ble_eq_true rfl) dX12_asked_208 rfl (q_judge hI hqv i t ⟨by omega, by omega⟩ rfl) (fun v_208 σ208 q_208 => ?_)
                                obtain ⟨rfl, hq_208, hr_208, hd_208, _, _, _, _⟩ := q_208
                                show Wp _ _ _ _ _ _ []
                                refine w_aload_n (pc' := 212) (i := 0) (by rfl) (by rfl) dX12_asked_211 rfl ?_
                                refine w_iload (pc' := 214) (by rfl) dX12_asked_212 rfl ?_
                                refine w_iload_n (pc' := 215) (i := 2) (by rfl) (by rfl) dX12_asked_214 rfl ?_
                                refine v_callVE (pc' := 218) (st' := [gI (STV σ0 i t)]) (d' := 3) (av := [gI i, gI t]) mi_mX12_stateOf lk_X12_540 rfl ci_X12 kd_133 rfl (Nat.le_of_ble_eq_true rfl) (Nat.le_of_ble_eq_true rfl) dX12_asked_215 rfl rfl (q_stateOf hI hq_208 i t ⟨by omega, by omega⟩ hr_208 hd_208) ?_
                                refine w_iload_n (pc' := 219) (i := 3) (by rfl) (by rfl) dX12_asked_218 rfl ?_
                                refine w_iconst (pc' := 220) (by decide) dX12_asked_219 rfl ?_
                                refine w_icmp_ne (pc' := 223) (t := 227) dX12_asked_220 rfl rfl (fun c_220 => ?_) (fun c_220 => ?_)
                                · skip
                                  refine w_iconst (pc' := 228) (by decide) dX12_asked_227 rfl ?_
                                  refine w_icmp_ne (pc' := 231) (t := 234) dX12_asked_228 rfl rfl (fun c_228 => ?_) (fun c_228 => ?_)
                                  · skip
                                    refine v_iinc (pc' := 237) (x := i) (ls' := [gR 133, gI p, gI t, gI w, gI (a + (LEAST σ0 i t)), gI (i + 1), gI (gb (TOLD σ0 i t ≠ -1))]) (by omega) (by decide) (by rfl) (by rfl) dX12_asked_234 rfl ?_
                                    refine w_goto (pc' := 100) dX12_asked_237 rfl ?_
                                    refine Wp.lose (ls' := [gR 133, gI p, gI t, gI w, gI (a + (LEAST σ0 i t)), gI (i + 1), gX 1]) ⟨.inr rfl, ⟨.inr rfl, ⟨.inr rfl, ⟨.inr rfl, ⟨.inr rfl, ⟨.inr rfl, ⟨.inl rfl, trivial⟩⟩⟩⟩⟩⟩⟩ ?_
                                    exact ih_100 _ (by omega) (i + 1) (a + (LEAST σ0 i t)) σ208 rfl (by omega) (by omega) (by rw [es, ← ha]; unfold rcT; (repeat' split) <;> omega) (by first | exact hqv | exact hq_208)
                                  · skip
                                    refine v_iinc (pc' := 234) (x := (a + (LEAST σ0 i t))) (ls' := [gR 133, gI p, gI t, gI w, gI ((a + (LEAST σ0 i t)) + 1), gI i, gI (gb (TOLD σ0 i t ≠ -1))]) (by omega) (by decide) (by rfl) (by rfl) dX12_asked_231 rfl ?_
                                    refine v_iinc (pc' := 237) (x := i) (ls' := [gR 133, gI p, gI t, gI w, gI ((a + (LEAST σ0 i t)) + 1), gI (i + 1), gI (gb (TOLD σ0 i t ≠ -1))]) (by omega) (by decide) (by rfl) (by rfl) dX12_asked_234 rfl ?_
                                    refine w_goto (pc' := 100) dX12_asked_237 rfl ?_
                                    refine Wp.lose (ls' := [gR 133, gI p, gI t, gI w, gI ((a + (LEAST σ0 i t)) + 1), gI (i + 1), gX 1]) ⟨.inr rfl, ⟨.inr rfl, ⟨.inr rfl, ⟨.inr rfl, ⟨.inr rfl, ⟨.inr rfl, ⟨.inl rfl, trivial⟩⟩⟩⟩⟩⟩⟩ ?_
                                    exact ih_100 _ (by omega) (i + 1) ((a + (LEAST σ0 i t)) + 1) σ208 rfl (by omega) (by omega) (by rw [es, ← ha]; unfold rcT; (repeat' split) <;> omega) (by first | exact hqv | exact hq_208)
                                · skip
                                  refine w_iconst (pc' := 224) (by decide) dX12_asked_223 rfl ?_
                                  refine w_goto (pc' := 228) dX12_asked_224 rfl ?_
                                  refine w_icmp_ne (pc' := 231) (t := 234) dX12_asked_228 rfl rfl (fun c_228 => ?_) (fun c_228 => ?_)
                                  · skip
                                    refine v_iinc (pc' := 237) (x := i) (ls' := [gR 133, gI p, gI t, gI w, gI (a + (LEAST σ0 i t)), gI (i + 1), gI (gb (TOLD σ0 i t ≠ -1))]) (by omega) (by decide) (by rfl) (by rfl) dX12_asked_234 rfl ?_
                                    refine w_goto (pc' := 100) dX12_asked_237 rfl ?_
                                    refine Wp.lose (ls' := [gR 133, gI p, gI t, gI w, gI (a + (LEAST σ0 i t)), gI (i + 1), gX 1]) ⟨.inr rfl, ⟨.inr rfl, ⟨.inr rfl, ⟨.inr rfl, ⟨.inr rfl, ⟨.inr rfl, ⟨.inl rfl, trivial⟩⟩⟩⟩⟩⟩⟩ ?_
                                    exact ih_100 _ (by omega) (i + 1) (a + (LEAST σ0 i t)) σ208 rfl (by omega) (by omega) (by rw [es, ← ha]; unfold rcT; (repeat' split) <;> omega) (by first | exact hqv | exact hq_208)
                                  · skip
                                    refine v_iinc (pc' := 234) (x := (a + (LEAST σ0 i t))) (ls' := [gR 133, gI p, gI t, gI w, gI ((a + (LEAST σ0 i t)) + 1), gI i, gI (gb (TOLD σ0 i t ≠ -1))]) (by omega) (by decide) (by rfl) (by rfl) dX12_asked_231 rfl ?_
                                    refine v_iinc (pc' := 237) (x := i) (ls' := [gR 133, gI p, gI t, gI w, gI ((a + (LEAST σ0 i t)) + 1), gI (i + 1), gI (gb (TOLD σ0 i t ≠ -1))]) (by omega) (by decide) (by rfl) (by rfl) dX12_asked_234 rfl ?_
                                    refine w_goto (pc' := 100) dX12_asked_237 rfl ?_
                                    refine Wp.lose (ls' := [gR 133, gI p, gI t, gI w, gI ((a + (LEAST σ0 i t)) + 1), gI (i + 1), gX 1]) ⟨.inr rfl, ⟨.inr rfl, ⟨.inr rfl, ⟨.inr rfl, ⟨.inr rfl, ⟨.inr rfl, ⟨.inl rfl, trivial⟩⟩⟩⟩⟩⟩⟩ ?_
                                    exact ih_100 _ (by omega) (i + 1) ((a + (LEAST σ0 i t)) + 1) σ208 rfl (by omega) (by omega) (by rw [es, ← ha]; unfold rcT; (repeat' split) <;> omega) (by first | exact hqv | exact hq_208)
                              · skip
                                refine w_iload_n (pc' := 197) (i := 3) (by rfl) (by rfl) dX12_asked_196 rfl ?_
                                refine w_iconst (pc' := 198) (by decide) dX12_asked_197 rfl ?_
                                refine w_icmp_eq (pc' := 201) (t := 204) dX12_asked_198 rfl rfl (fun c_198 => ?_) (fun c_198 => ?_)
                                · skip
                                  refine w_aload_n (pc' := 205) (i := 0) (by rfl) (by rfl) dX12_asked_204 rfl ?_
                                  refine w_iload (pc' := 207) (by rfl) dX12_asked_205 rfl ?_
                                  refine w_iload_n (pc' := 208) (i := 2) (by rfl) (by rfl) dX12_asked_207 rfl ?_
                                  refine w_callV (pc' := 211) (d' := 4) (av := [gI i, gI t]) mi_mX12_judge lk_X12_537 rfl ci_X12 kd_133 rfl (Nat.le_of_ble_eq_true rfl) (Nat.le_of_ble_eq_true rfl) dX12_asked_208 rfl (q_judge hI hqv i t ⟨by omega, by omega⟩ rfl) (fun v_208 σ208 q_208 => ?_)
                                  obtain ⟨rfl, hq_208, hr_208, hd_208, _, _, _, _⟩ := q_208
                                  show Wp _ _ _ _ _ _ []
                                  refine w_aload_n (pc' := 212) (i := 0) (by rfl) (by rfl) dX12_asked_211 rfl ?_
                                  refine w_iload (pc' := 214) (by rfl) dX12_asked_212 rfl ?_
                                  refine w_iload_n (pc' := 215) (i := 2) (by rfl) (by rfl) dX12_asked_214 rfl ?_
                                  refine v_callVE (pc' := 218) (st' := [gI (STV σ0 i t)]) (d' := 3) (av := [gI i, gI t]) mi_mX12_stateOf lk_X12_540 rfl ci_X12 kd_133 rfl (Nat.le_of_ble_eq_true rfl) (Nat.le_of_ble_eq_true rfl) dX12_asked_215 rfl rfl (q_stateOf hI hq_208 i t ⟨by omega, by omega⟩ hr_208 hd_208) ?_
                                  refine w_iload_n (pc' := 219) (i := 3) (by rfl) (by rfl) dX12_asked_218 rfl ?_
                                  refine w_iconst (pc' := 220) (by decide) dX12_asked_219 rfl ?_
                                  refine w_icmp_ne (pc' := 223) (t := 227) dX12_asked_220 rfl rfl (fun c_220 => ?_) (fun c_220 => ?_)
                                  · skip
                                    refine w_iconst (pc' := 228) (by decide) dX12_asked_227 rfl ?_
                                    refine w_icmp_ne (pc' := 231) (t := 234) dX12_asked_228 rfl rfl (fun c_228 => ?_) (fun c_228 => ?_)
                                    · skip
                                      refine v_iinc (pc' := 237) (x := i) (ls' := [gR 133, gI p, gI t, gI w, gI (a + (LEAST σ0 i t)), gI (i + 1), gI (gb (TOLD σ0 i t ≠ -1))]) (by omega) (by decide) (by rfl) (by rfl) dX12_asked_234 rfl ?_
                                      refine w_goto (pc' := 100) dX12_asked_237 rfl ?_
                                      refine Wp.lose (ls' := [gR 133, gI p, gI t, gI w, gI (a + (LEAST σ0 i t)), gI (i + 1), gX 1]) ⟨.inr rfl, ⟨.inr rfl, ⟨.inr rfl, ⟨.inr rfl, ⟨.inr rfl, ⟨.inr rfl, ⟨.inl rfl, trivial⟩⟩⟩⟩⟩⟩⟩ ?_
                                      exact ih_100 _ (by omega) (i + 1) (a + (LEAST σ0 i t)) σ208 rfl (by omega) (by omega) (by rw [es, ← ha]; unfold rcT; (repeat' split) <;> omega) (by first | exact hqv | exact hq_208)
                                    · skip
                                      refine v_iinc (pc' := 234) (x := (a + (LEAST σ0 i t))) (ls' := [gR 133, gI p, gI t, gI w, gI ((a + (LEAST σ0 i t)) + 1), gI i, gI (gb (TOLD σ0 i t ≠ -1))]) (by omega) (by decide) (by rfl) (by rfl) dX12_asked_231 rfl ?_
                                      refine v_iinc (pc' := 237) (x := i) (ls' := [gR 133, gI p, gI t, gI w, gI ((a + (LEAST σ0 i t)) + 1), gI (i + 1), gI (gb (TOLD σ0 i t ≠ -1))]) (by omega) (by decide) (by rfl) (by rfl) dX12_asked_234 rfl ?_
                                      refine w_goto (pc' := 100) dX12_asked_237 rfl ?_
                                      refine Wp.lose (ls' := [gR 133, gI p, gI t, gI w, gI ((a + (LEAST σ0 i t)) + 1), gI (i + 1), gX 1]) ⟨.inr rfl, ⟨.inr rfl, ⟨.inr rfl, ⟨.inr rfl, ⟨.inr rfl, ⟨.inr rfl, ⟨.inl rfl, trivial⟩⟩⟩⟩⟩⟩⟩ ?_
                                      exact ih_100 _ (by omega) (i + 1) ((a + (LEAST σ0 i t)) + 1) σ208 rfl (by omega) (by omega) (by rw [es, ← ha]; unfold rcT; (repeat' split) <;> omega) (by first | exact hqv | exact hq_208)
                                  · skip
                                    refine w_iconst (pc' := 224) (by decide) dX12_asked_223 rfl ?_
                                    refine w_goto (pc' := 228) dX12_asked_224 rfl ?_
                                    refine w_icmp_ne (pc' := 231) (t := 234) dX12_asked_228 rfl rfl (fun c_228 => ?_) (fun c_228 => ?_)
                                    · skip
                                      refine v_iinc (pc' := 237) (x := i) (ls' := [gR 133, gI p, gI t, gI w, gI (a + (LEAST σ0 i t)), gI (i + 1), gI (gb (TOLD σ0 i t ≠ -1))]) (by omega) (by decide) (by rfl) (by rfl) dX12_asked_234 rfl ?_
                                      refine w_goto (pc' := 100) dX12_asked_237 rfl ?_
                                      refine Wp.lose (ls' := [gR 133, gI p, gI t, gI w, gI (a + (LEAST σ0 i t)), gI (i + 1), gX 1]) ⟨.inr rfl, ⟨.inr rfl, ⟨.inr rfl, ⟨.inr rfl, ⟨.inr rfl, ⟨.inr rfl, ⟨.inl rfl, trivial⟩⟩⟩⟩⟩⟩⟩ ?_
                                      exact ih_100 _ (by omega) (i + 1) (a + (LEAST σ0 i t)) σ208 rfl (by omega) (by omega) (by rw [es, ← ha]; unfold rcT; (repeat' split) <;> omega) (by first | exact hqv | exact hq_208)
                                    · skip
                                      refine v_iinc (pc' := 234) (x := (a + (LEAST σ0 i t))) (ls' := [gR 133, gI p, gI t, gI w, gI ((a + (LEAST σ0 i t)) + 1), gI i, gI (gb (TOLD σ0 i t ≠ -1))]) (by omega) (by decide) (by rfl) (by rfl) dX12_asked_231 rfl ?_
                                      refine v_iinc (pc' := 237) (x := i) (ls' := [gR 133, gI p, gI t, gI w, gI ((a + (LEAST σ0 i t)) + 1), gI (i + 1), gI (gb (TOLD σ0 i t ≠ -1))]) (by omega) (by decide) (by rfl) (by rfl) dX12_asked_234 rfl ?_
                                      refine w_goto (pc' := 100) dX12_asked_237 rfl ?_
                                      refine Wp.lose (ls' := [gR 133, gI p, gI t, gI w, gI ((a + (LEAST σ0 i t)) + 1), gI (i + 1), gX 1]) ⟨.inr rfl, ⟨.inr rfl, ⟨.inr rfl, ⟨.inr rfl, ⟨.inr rfl, ⟨.inr rfl, ⟨.inl rfl, trivial⟩⟩⟩⟩⟩⟩⟩ ?_
                                      exact ih_100 _ (by omega) (i + 1) ((a + (LEAST σ0 i t)) + 1) σ208 rfl (by omega) (by omega) (by rw [es, ← ha]; unfold rcT; (repeat' split) <;> omega) (by first | exact hqv | exact hq_208)
                                · skip
                                  refine w_goto (pc' := 234) dX12_asked_201 rfl ?_
                                  refine v_iinc (pc' := 237) (x := i) (ls' := [gR 133, gI p, gI t, gI w, gI (a + (LEAST σ0 i t)), gI (i + 1), gI (gb (TOLD σ0 i t ≠ -1))]) (by omega) (by decide) (by rfl) (by rfl) dX12_asked_234 rfl ?_
                                  refine w_goto (pc' := 100) dX12_asked_237 rfl ?_
                                  refine Wp.lose (ls' := [gR 133, gI p, gI t, gI w, gI (a + (LEAST σ0 i t)), gI (i + 1), gX 1]) ⟨.inr rfl, ⟨.inr rfl, ⟨.inr rfl, ⟨.inr rfl, ⟨.inr rfl, ⟨.inr rfl, ⟨.inl rfl, trivial⟩⟩⟩⟩⟩⟩⟩ ?_
                                  exact ih_100 _ (by omega) (i + 1) (a + (LEAST σ0 i t)) σv rfl (by omega) (by omega) (by rw [es, ← ha]; unfold rcT; (repeat' split) <;> omega) (by first | exact hqv | exact hq_208)
                        · skip
                          refine w_iload (pc' := 163) (by rfl) dX12_asked_161 rfl ?_
                          refine v_if_eqB (pc' := 166) (t := 169) dX12_asked_163 rfl rfl (fun c_163 => ?_) (fun c_163 => ?_)
                          · skip
                            refine w_iload_n (pc' := 170) (i := 3) (by rfl) (by rfl) dX12_asked_169 rfl ?_
                            refine w_iconst (pc' := 171) (by decide) dX12_asked_170 rfl ?_
                            refine w_icmp_ne (pc' := 174) (t := 191) dX12_asked_171 rfl rfl (fun c_171 => ?_) (fun c_171 => ?_)
                            · skip
                              refine w_iload_n (pc' := 192) (i := 3) (by rfl) (by rfl) dX12_asked_191 rfl ?_
                              refine w_iconst (pc' := 193) (by decide) dX12_asked_192 rfl ?_
                              refine w_icmp_eq (pc' := 196) (t := 204) dX12_asked_193 rfl rfl (fun c_193 => ?_) (fun c_193 => ?_)
                              · skip
                                refine w_aload_n (pc' := 205) (i := 0) (by rfl) (by rfl) dX12_asked_204 rfl ?_
                                refine w_iload (pc' := 207) (by rfl) dX12_asked_205 rfl ?_
                                refine w_iload_n (pc' := 208) (i := 2) (by rfl) (by rfl) dX12_asked_207 rfl ?_
                                refine w_callV (pc' := 211) (d' := 4) (av := [gI i, gI t]) mi_mX12_judge lk_X12_537 rfl ci_X12 kd_133 rfl (Nat.le_of_ble_eq_true rfl) (Nat.le_of_ble_eq_true rfl) dX12_asked_208 rfl (q_judge hI hqv i t ⟨by omega, by omega⟩ rfl) (fun v_208 σ208 q_208 => ?_)
                                obtain ⟨rfl, hq_208, hr_208, hd_208, _, _, _, _⟩ := q_208
                                show Wp _ _ _ _ _ _ []
                                refine w_aload_n (pc' := 212) (i := 0) (by rfl) (by rfl) dX12_asked_211 rfl ?_
                                refine w_iload (pc' := 214) (by rfl) dX12_asked_212 rfl ?_
                                refine w_iload_n (pc' := 215) (i := 2) (by rfl) (by rfl) dX12_asked_214 rfl ?_
                                refine v_callVE (pc' := 218) (st' := [gI (STV σ0 i t)]) (d' := 3) (av := [gI i, gI t]) mi_mX12_stateOf lk_X12_540 rfl ci_X12 kd_133 rfl (Nat.le_of_ble_eq_true rfl) (Nat.le_of_ble_eq_true rfl) dX12_asked_215 rfl rfl (q_stateOf hI hq_208 i t ⟨by omega, by omega⟩ hr_208 hd_208) ?_
                                refine w_iload_n (pc' := 219) (i := 3) (by rfl) (by rfl) dX12_asked_218 rfl ?_
                                refine w_iconst (pc' := 220) (by decide) dX12_asked_219 rfl ?_
                                refine w_icmp_ne (pc' := 223) (t := 227) dX12_asked_220 rfl rfl (fun c_220 => ?_) (fun c_220 => ?_)
                                · skip
                                  refine w_iconst (pc' := 228) (by decide) dX12_asked_227 rfl ?_
                                  refine w_icmp_ne (pc' := 231) (t := 234) dX12_asked_228 rfl rfl (fun c_228 => ?_) (fun c_228 => ?_)
                                  · skip
                                    refine v_iinc (pc' := 237) (x := i) (ls' := [gR 133, gI p, gI t, gI w, gI a, gI (i + 1), gI (gb (TOLD σ0 i t ≠ -1))]) (by omega) (by decide) (by rfl) (by rfl) dX12_asked_234 rfl ?_
                                    refine w_goto (pc' := 100) dX12_asked_237 rfl ?_
                                    refine Wp.lose (ls' := [gR 133, gI p, gI t, gI w, gI a, gI (i + 1), gX 1]) ⟨.inr rfl, ⟨.inr rfl, ⟨.inr rfl, ⟨.inr rfl, ⟨.inr rfl, ⟨.inr rfl, ⟨.inl rfl, trivial⟩⟩⟩⟩⟩⟩⟩ ?_
                                    exact ih_100 _ (by omega) (i + 1) a σ208 rfl (by omega) (by omega) (by rw [es, ← ha]; unfold rcT; (repeat' split) <;> omega) (by first | exact hqv | exact hq_208)
                                  · skip
                                    refine v_iinc (pc' := 234) (x := a) (ls' := [gR 133, gI p, gI t, gI w, gI (a + 1), gI i, gI (gb (TOLD σ0 i t ≠ -1))]) (by omega) (by decide) (by rfl) (by rfl) dX12_asked_231 rfl ?_
                                    refine v_iinc (pc' := 237) (x := i) (ls' := [gR 133, gI p, gI t, gI w, gI (a + 1), gI (i + 1), gI (gb (TOLD σ0 i t ≠ -1))]) (by omega) (by decide) (by rfl) (by rfl) dX12_asked_234 rfl ?_
                                    refine w_goto (pc' := 100) dX12_asked_237 rfl ?_
                                    refine Wp.lose (ls' := [gR 133, gI p, gI t, gI w, gI (a + 1), gI (i + 1), gX 1]) ⟨.inr rfl, ⟨.inr rfl, ⟨.inr rfl, ⟨.inr rfl, ⟨.inr rfl, ⟨.inr rfl, ⟨.inl rfl, trivial⟩⟩⟩⟩⟩⟩⟩ ?_
                                    exact ih_100 _ (by omega) (i + 1) (a + 1) σ208 rfl (by omega) (by omega) (by rw [es, ← ha]; unfold rcT; (repeat' split) <;> omega) (by first | exact hqv | exact hq_208)
                                · skip
                                  refine w_iconst (pc' := 224) (by decide) dX12_asked_223 rfl ?_
                                  refine w_goto (pc' := 228) dX12_asked_224 rfl ?_
                                  refine w_icmp_ne (pc' := 231) (t := 234) dX12_asked_228 rfl rfl (fun c_228 => ?_) (fun c_228 => ?_)
                                  · skip
                                    refine v_iinc (pc' := 237) (x := i) (ls' := [gR 133, gI p, gI t, gI w, gI a, gI (i + 1), gI (gb (TOLD σ0 i t ≠ -1))]) (by omega) (by decide) (by rfl) (by rfl) dX12_asked_234 rfl ?_
                                    refine w_goto (pc' := 100) dX12_asked_237 rfl ?_
                                    refine Wp.lose (ls' := [gR 133, gI p, gI t, gI w, gI a, gI (i + 1), gX 1]) ⟨.inr rfl, ⟨.inr rfl, ⟨.inr rfl, ⟨.inr rfl, ⟨.inr rfl, ⟨.inr rfl, ⟨.inl rfl, trivial⟩⟩⟩⟩⟩⟩⟩ ?_
                                    exact ih_100 _ (by omega) (i + 1) a σ208 rfl (by omega) (by omega) (by rw [es, ← ha]; unfold rcT; (repeat' split) <;> omega) (by first | exact hqv | exact hq_208)
                                  · skip
                                    refine v_iinc (pc' := 234) (x := a) (ls' := [gR 133, gI p, gI t, gI w, gI (a + 1), gI i, gI (gb (TOLD σ0 i t ≠ -1))]) (by omega) (by decide) (by rfl) (by rfl) dX12_asked_231 rfl ?_
                                    refine v_iinc (pc' := 237) (x := i) (ls' := [gR 133, gI p, gI t, gI w, gI (a + 1), gI (i + 1), gI (gb (TOLD σ0 i t ≠ -1))]) (by omega) (by decide) (by rfl) (by rfl) dX12_asked_234 rfl ?_
                                    refine w_goto (pc' := 100) dX12_asked_237 rfl ?_
                                    refine Wp.lose (ls' := [gR 133, gI p, gI t, gI w, gI (a + 1), gI (i + 1), gX 1]) ⟨.inr rfl, ⟨.inr rfl, ⟨.inr rfl, ⟨.inr rfl, ⟨.inr rfl, ⟨.inr rfl, ⟨.inl rfl, trivial⟩⟩⟩⟩⟩⟩⟩ ?_
                                    exact ih_100 _ (by omega) (i + 1) (a + 1) σ208 rfl (by omega) (by omega) (by rw [es, ← ha]; unfold rcT; (repeat' split) <;> omega) (by first | exact hqv | exact hq_208)
                              · skip
                                refine w_iload_n (pc' := 197) (i := 3) (by rfl) (by rfl) dX12_asked_196 rfl ?_
                                refine w_iconst (pc' := 198) (by decide) dX12_asked_197 rfl ?_
                                refine w_icmp_eq (pc' := 201) (t := 204) dX12_asked_198 rfl rfl (fun c_198 => ?_) (fun c_198 => ?_)
                                · skip
                                  refine w_aload_n (pc' := 205) (i := 0) (by rfl) (by rfl) dX12_asked_204 rfl ?_
                                  refine w_iload (pc' := 207) (by rfl) dX12_asked_205 rfl ?_
                                  refine w_iload_n (pc' := 208) (i := 2) (by rfl) (by rfl) dX12_asked_207 rfl ?_
                                  refine w_callV (pc' := 211) (d' := 4) (av := [gI i, gI t]) mi_mX12_judge lk_X12_537 rfl ci_X12 kd_133 rfl (Nat.le_of_ble_eq_true rfl) (Nat.le_of_ble_eq_true rfl) dX12_asked_208 rfl (q_judge hI hqv i t ⟨by omega, by omega⟩ rfl) (fun v_208 σ208 q_208 => ?_)
                                  obtain ⟨rfl, hq_208, hr_208, hd_208, _, _, _, _⟩ := q_208
                                  show Wp _ _ _ _ _ _ []
                                  refine w_aload_n (pc' := 212) (i := 0) (by rfl) (by rfl) dX12_asked_211 rfl ?_
                                  refine w_iload (pc' := 214) (by rfl) dX12_asked_212 rfl ?_
                                  refine w_iload_n (pc' := 215) (i := 2) (by rfl) (by rfl) dX12_asked_214 rfl ?_
                                  refine v_callVE (pc' := 218) (st' := [gI (STV σ0 i t)]) (d' := 3) (av := [gI i, gI t]) mi_mX12_stateOf lk_X12_540 rfl ci_X12 kd_133 rfl (Nat.le_of_ble_eq_true rfl) (Nat.le_of_ble_eq_true rfl) dX12_asked_215 rfl rfl (q_stateOf hI hq_208 i t ⟨by omega, by omega⟩ hr_208 hd_208) ?_
                                  refine w_iload_n (pc' := 219) (i := 3) (by rfl) (by rfl) dX12_asked_218 rfl ?_
                                  refine w_iconst (pc' := 220) (by decide) dX12_asked_219 rfl ?_
                                  refine w_icmp_ne (pc' := 223) (t := 227) dX12_asked_220 rfl rfl (fun c_220 => ?_) (fun c_220 => ?_)
                                  · skip
                                    refine w_iconst (pc' := 228) (by decide) dX12_asked_227 rfl ?_
                                    refine w_icmp_ne (pc' := 231) (t := 234) dX12_asked_228 rfl rfl (fun c_228 => ?_) (fun c_228 => ?_)
                                    · skip
                                      refine v_iinc (pc' := 237) (x := i) (ls' := [gR 133, gI p, gI t, gI w, gI a, gI (i + 1), gI (gb (TOLD σ0 i t ≠ -1))]) (by omega) (by decide) (by rfl) (by rfl) dX12_asked_234 rfl ?_
                                      refine w_goto (pc' := 100) dX12_asked_237 rfl ?_
                                      refine Wp.lose (ls' := [gR 133, gI p, gI t, gI w, gI a, gI (i + 1), gX 1]) ⟨.inr rfl, ⟨.inr rfl, ⟨.inr rfl, ⟨.inr rfl, ⟨.inr rfl, ⟨.inr rfl, ⟨.inl rfl, trivial⟩⟩⟩⟩⟩⟩⟩ ?_
                                      exact ih_100 _ (by omega) (i + 1) a σ208 rfl (by omega) (by omega) (by rw [es, ← ha]; unfold rcT; (repeat' split) <;> omega) (by first | exact hqv | exact hq_208)
                                    · skip
                                      refine v_iinc (pc' := 234) (x := a) (ls' := [gR 133, gI p, gI t, gI w, gI (a + 1), gI i, gI (gb (TOLD σ0 i t ≠ -1))]) (by omega) (by decide) (by rfl) (by rfl) dX12_asked_231 rfl ?_
                                      refine v_iinc (pc' := 237) (x := i) (ls' := [gR 133, gI p, gI t, gI w, gI (a + 1), gI (i + 1), gI (gb (TOLD σ0 i t ≠ -1))]) (by omega) (by decide) (by rfl) (by rfl) dX12_asked_234 rfl ?_
                                      refine w_goto (pc' := 100) dX12_asked_237 rfl ?_
                                      refine Wp.lose (ls' := [gR 133, gI p, gI t, gI w, gI (a + 1), gI (i + 1), gX 1]) ⟨.inr rfl, ⟨.inr rfl, ⟨.inr rfl, ⟨.inr rfl, ⟨.inr rfl, ⟨.inr rfl, ⟨.inl rfl, trivial⟩⟩⟩⟩⟩⟩⟩ ?_
                                      exact ih_100 _ (by omega) (i + 1) (a + 1) σ208 rfl (by omega) (by omega) (by rw [es, ← ha]; unfold rcT; (repeat' split) <;> omega) (by first | exact hqv | exact hq_208)
                                  · skip
                                    refine w_iconst (pc' := 224) (by decide) dX12_asked_223 rfl ?_
                                    refine w_goto (pc' := 228) dX12_asked_224 rfl ?_
                                    refine w_icmp_ne (pc' := 231) (t := 234) dX12_asked_228 rfl rfl (fun c_228 => ?_) (fun c_228 => ?_)
                                    · skip
                                      refine v_iinc (pc' := 237) (x := i) (ls' := [gR 133, gI p, gI t, gI w, gI a, gI (i + 1), gI (gb (TOLD σ0 i t ≠ -1))]) (by omega) (by decide) (by rfl) (by rfl) dX12_asked_234 rfl ?_
                                      refine w_goto (pc' := 100) dX12_asked_237 rfl ?_
                                      refine Wp.lose (ls' := [gR 133, gI p, gI t, gI w, gI a, gI (i + 1), gX 1]) ⟨.inr rfl, ⟨.inr rfl, ⟨.inr rfl, ⟨.inr rfl, ⟨.inr rfl, ⟨.inr rfl, ⟨.inl rfl, trivial⟩⟩⟩⟩⟩⟩⟩ ?_
                                      exact ih_100 _ (by omega) (i + 1) a σ208 rfl (by omega) (by omega) (by rw [es, ← ha]; unfold rcT; (repeat' split) <;> omega) (by first | exact hqv | exact hq_208)
                                    · skip
                                      refine v_iinc (pc' := 234) (x := a) (ls' := [gR 133, gI p, gI t, gI w, gI (a + 1), gI i, gI (gb (TOLD σ0 i t ≠ -1))]) (by omega) (by decide) (by rfl) (by rfl) dX12_asked_231 rfl ?_
                                      refine v_iinc (pc' := 237) (x := i) (ls' := [gR 133, gI p, gI t, gI w, gI (a + 1), gI (i + 1), gI (gb (TOLD σ0 i t ≠ -1))]) (by omega) (by decide) (by rfl) (by rfl) dX12_asked_234 rfl ?_
                                      refine w_goto (pc' := 100) dX12_asked_237 rfl ?_
                                      refine Wp.lose (ls' := [gR 133, gI p, gI t, gI w, gI (a + 1), gI (i + 1), gX 1]) ⟨.inr rfl, ⟨.inr rfl, ⟨.inr rfl, ⟨.inr rfl, ⟨.inr rfl, ⟨.inr rfl, ⟨.inl rfl, trivial⟩⟩⟩⟩⟩⟩⟩ ?_
                                      exact ih_100 _ (by omega) (i + 1) (a + 1) σ208 rfl (by omega) (by omega) (by rw [es, ← ha]; unfold rcT; (repeat' split) <;> omega) (by first | exact hqv | exact hq_208)
                                · skip
                                  refine w_goto (pc' := 234) dX12_asked_201 rfl ?_
                                  refine v_iinc (pc' := 237) (x := i) (ls' := [gR 133, gI p, gI t, gI w, gI a, gI (i + 1), gI (gb (TOLD σ0 i t ≠ -1))]) (by omega) (by decide) (by rfl) (by rfl) dX12_asked_234 rfl ?_
                                  refine w_goto (pc' := 100) dX12_asked_237 rfl ?_
                                  refine Wp.lose (ls' := [gR 133, gI p, gI t, gI w, gI a, gI (i + 1), gX 1]) ⟨.inr rfl, ⟨.inr rfl, ⟨.inr rfl, ⟨.inr rfl, ⟨.inr rfl, ⟨.inr rfl, ⟨.inl rfl, trivial⟩⟩⟩⟩⟩⟩⟩ ?_
                                  exact ih_100 _ (by omega) (i + 1) a σv rfl (by omega) (by omega) (by rw [es, ← ha]; unfold rcT; (repeat' split) <;> omega) (by first | exact hqv | exact hq_208)
                            · skip
                              refine w_iload (pc' := 176) (by rfl) dX12_asked_174 rfl ?_
                              refine v_if_eqB (pc' := 179) (t := 191) dX12_asked_176 rfl rfl (fun c_176 => ?_) (fun c_176 => ?_)
                              · skip
                                refine w_iload_n (pc' := 192) (i := 3) (by rfl) (by rfl) dX12_asked_191 rfl ?_
                                refine w_iconst (pc' := 193) (by decide) dX12_asked_192 rfl ?_
                                refine w_icmp_eq (pc' := 196) (t := 204) dX12_asked_193 rfl rfl (fun c_193 => ?_) (fun c_193 => ?_)
                                · skip
                                  refine w_aload_n (pc' := 205) (i := 0) (by rfl) (by rfl) dX12_asked_204 rfl ?_
                                  refine w_iload (pc' := 207) (by rfl) dX12_asked_205 rfl ?_
                                  refine w_iload_n (pc' := 208) (i := 2) (by rfl) (by rfl) dX12_asked_207 rfl ?_
                                  refine w_callV (pc' := 211) (d' := 4) (av := [gI i, gI t]) mi_mX12_judge lk_X12_537 rfl ci_X12 kd_133 rfl (Nat.le_of_ble_eq_true rfl) (Nat.le_of_ble_eq_true rfl) dX12_asked_208 rfl (q_judge hI hqv i t ⟨by omega, by omega⟩ rfl) (fun v_208 σ208 q_208 => ?_)
                                  obtain ⟨rfl, hq_208, hr_208, hd_208, _, _, _, _⟩ := q_208
                                  show Wp _ _ _ _ _ _ []
                                  refine w_aload_n (pc' := 212) (i := 0) (by rfl) (by rfl) dX12_asked_211 rfl ?_
                                  refine w_iload (pc' := 214) (by rfl) dX12_asked_212 rfl ?_
                                  refine w_iload_n (pc' := 215) (i := 2) (by rfl) (by rfl) dX12_asked_214 rfl ?_
                                  refine v_callVE (pc' := 218) (st' := [gI (STV σ0 i t)]) (d' := 3) (av := [gI i, gI t]) mi_mX12_stateOf lk_X12_540 rfl ci_X12 kd_133 rfl (Nat.le_of_ble_eq_true rfl) (Nat.le_of_ble_eq_true rfl) dX12_asked_215 rfl rfl (q_stateOf hI hq_208 i t ⟨by omega, by omega⟩ hr_208 hd_208) ?_
                                  refine w_iload_n (pc' := 219) (i := 3) (by rfl) (by rfl) dX12_asked_218 rfl ?_
                                  refine w_iconst (pc' := 220) (by decide) dX12_asked_219 rfl ?_
                                  refine w_icmp_ne (pc' := 223) (t := 227) dX12_asked_220 rfl rfl (fun c_220 => ?_) (fun c_220 => ?_)
                                  · skip
                                    refine w_iconst (pc' := 228) (by decide) dX12_asked_227 rfl ?_
                                    refine w_icmp_ne (pc' := 231) (t := 234) dX12_asked_228 rfl rfl (fun c_228 => ?_) (fun c_228 => ?_)
                                    · skip
                                      refine v_iinc (pc' := 237) (x := i) (ls' := [gR 133, gI p, gI t, gI w, gI a, gI (i + 1), gI (gb (TOLD σ0 i t ≠ -1))]) (by omega) (by decide) (by rfl) (by rfl) dX12_asked_234 rfl ?_
                                      refine w_goto (pc' := 100) dX12_asked_237 rfl ?_
                                      refine Wp.lose (ls' := [gR 133, gI p, gI t, gI w, gI a, gI (i + 1), gX 1]) ⟨.inr rfl, ⟨.inr rfl, ⟨.inr rfl, ⟨.inr rfl, ⟨.inr rfl, ⟨.inr rfl, ⟨.inl rfl, trivial⟩⟩⟩⟩⟩⟩⟩ ?_
                                      exact ih_100 _ (by omega) (i + 1) a σ208 rfl (by omega) (by omega) (by rw [es, ← ha]; unfold rcT; (repeat' split) <;> omega) (by first | exact hqv | exact hq_208)
                                    · skip
                                      refine v_iinc (pc' := 234) (x := a) (ls' := [gR 133, gI p, gI t, gI w, gI (a + 1), gI i, gI (gb (TOLD σ0 i t ≠ -1))]) (by omega) (by decide) (by rfl) (by rfl) dX12_asked_231 rfl ?_
                                      refine v_iinc (pc' := 237) (x := i) (ls' := [gR 133, gI p, gI t, gI w, gI (a + 1), gI (i + 1), gI (gb (TOLD σ0 i t ≠ -1))]) (by omega) (by decide) (by rfl) (by rfl) dX12_asked_234 rfl ?_
                                      refine w_goto (pc' := 100) dX12_asked_237 rfl ?_
                                      refine Wp.lose (ls' := [gR 133, gI p, gI t, gI w, gI (a + 1), gI (i + 1), gX 1]) ⟨.inr rfl, ⟨.inr rfl, ⟨.inr rfl, ⟨.inr rfl, ⟨.inr rfl, ⟨.inr rfl, ⟨.inl rfl, trivial⟩⟩⟩⟩⟩⟩⟩ ?_
                                      exact ih_100 _ (by omega) (i + 1) (a + 1) σ208 rfl (by omega) (by omega) (by rw [es, ← ha]; unfold rcT; (repeat' split) <;> omega) (by first | exact hqv | exact hq_208)
                                  · skip
                                    refine w_iconst (pc' := 224) (by decide) dX12_asked_223 rfl ?_
                                    refine w_goto (pc' := 228) dX12_asked_224 rfl ?_
                                    refine w_icmp_ne (pc' := 231) (t := 234) dX12_asked_228 rfl rfl (fun c_228 => ?_) (fun c_228 => ?_)
                                    · skip
                                      refine v_iinc (pc' := 237) (x := i) (ls' := [gR 133, gI p, gI t, gI w, gI a, gI (i + 1), gI (gb (TOLD σ0 i t ≠ -1))]) (by omega) (by decide) (by rfl) (by rfl) dX12_asked_234 rfl ?_
                                      refine w_goto (pc' := 100) dX12_asked_237 rfl ?_
                                      refine Wp.lose (ls' := [gR 133, gI p, gI t, gI w, gI a, gI (i + 1), gX 1]) ⟨.inr rfl, ⟨.inr rfl, ⟨.inr rfl, ⟨.inr rfl, ⟨.inr rfl, ⟨.inr rfl, ⟨.inl rfl, trivial⟩⟩⟩⟩⟩⟩⟩ ?_
                                      exact ih_100 _ (by omega) (i + 1) a σ208 rfl (by omega) (by omega) (by rw [es, ← ha]; unfold rcT; (repeat' split) <;> omega) (by first | exact hqv | exact hq_208)
                                    · skip
                                      refine v_iinc (pc' := 234) (x := a) (ls' := [gR 133, gI p, gI t, gI w, gI (a + 1), gI i, gI (gb (TOLD σ0 i t ≠ -1))]) (by omega) (by decide) (by rfl) (by rfl) dX12_asked_231 rfl ?_
                                      refine v_iinc (pc' := 237) (x := i) (ls' := [gR 133, gI p, gI t, gI w, gI (a + 1), gI (i + 1), gI (gb (TOLD σ0 i t ≠ -1))]) (by omega) (by decide) (by rfl) (by rfl) dX12_asked_234 rfl ?_
                                      refine w_goto (pc' := 100) dX12_asked_237 rfl ?_
                                      refine Wp.lose (ls' := [gR 133, gI p, gI t, gI w, gI (a + 1), gI (i + 1), gX 1]) ⟨.inr rfl, ⟨.inr rfl, ⟨.inr rfl, ⟨.inr rfl, ⟨.inr rfl, ⟨.inr rfl, ⟨.inl rfl, trivial⟩⟩⟩⟩⟩⟩⟩ ?_
                                      exact ih_100 _ (by omega) (i + 1) (a + 1) σ208 rfl (by omega) (by omega) (by rw [es, ← ha]; unfold rcT; (repeat' split) <;> omega) (by first | exact hqv | exact hq_208)
                                · skip
                                  refine w_iload_n (pc' := 197) (i := 3) (by rfl) (by rfl) dX12_asked_196 rfl ?_
                                  refine w_iconst (pc' := 198) (by decide) dX12_asked_197 rfl ?_
                                  refine w_icmp_eq (pc' := 201) (t := 204) dX12_asked_198 rfl rfl (fun c_198 => ?_) (fun c_198 => ?_)
                                  · skip
                                    refine w_aload_n (pc' := 205) (i := 0) (by rfl) (by rfl) dX12_asked_204 rfl ?_
                                    refine w_iload (pc' := 207) (by rfl) dX12_asked_205 rfl ?_
                                    refine w_iload_n (pc' := 208) (i := 2) (by rfl) (by rfl) dX12_asked_207 rfl ?_
                                    refine w_callV (pc' := 211) (d' := 4) (av := [gI i, gI t]) mi_mX12_judge lk_X12_537 rfl ci_X12 kd_133 rfl (Nat.le_of_ble_eq_true rfl) (Nat.le_of_ble_eq_true rfl) dX12_asked_208 rfl (q_judge hI hqv i t ⟨by omega, by omega⟩ rfl) (fun v_208 σ208 q_208 => ?_)
                                    obtain ⟨rfl, hq_208, hr_208, hd_208, _, _, _, _⟩ := q_208
                                    show Wp _ _ _ _ _ _ []
                                    refine w_aload_n (pc' := 212) (i := 0) (by rfl) (by rfl) dX12_asked_211 rfl ?_
                                    refine w_iload (pc' := 214) (by rfl) dX12_asked_212 rfl ?_
                                    refine w_iload_n (pc' := 215) (i := 2) (by rfl) (by rfl) dX12_asked_214 rfl ?_
                                    refine v_callVE (pc' := 218) (st' := [gI (STV σ0 i t)]) (d' := 3) (av := [gI i, gI t]) mi_mX12_stateOf lk_X12_540 rfl ci_X12 kd_133 rfl (Nat.le_of_ble_eq_true rfl) (Nat.le_of_ble_eq_true rfl) dX12_asked_215 rfl rfl (q_stateOf hI hq_208 i t ⟨by omega, by omega⟩ hr_208 hd_208) ?_
                                    refine w_iload_n (pc' := 219) (i := 3) (by rfl) (by rfl) dX12_asked_218 rfl ?_
                                    refine w_iconst (pc' := 220) (by decide) dX12_asked_219 rfl ?_
                                    refine w_icmp_ne (pc' := 223) (t := 227) dX12_asked_220 rfl rfl (fun c_220 => ?_) (fun c_220 => ?_)
                                    · skip
                                      refine w_iconst (pc' := 228) (by decide) dX12_asked_227 rfl ?_
                                      refine w_icmp_ne (pc' := 231) (t := 234) dX12_asked_228 rfl rfl (fun c_228 => ?_) (fun c_228 => ?_)
                                      · skip
                                        refine v_iinc (pc' := 237) (x := i) (ls' := [gR 133, gI p, gI t, gI w, gI a, gI (i + 1), gI (gb (TOLD σ0 i t ≠ -1))]) (by omega) (by decide) (by rfl) (by rfl) dX12_asked_234 rfl ?_
                                        refine w_goto (pc' := 100) dX12_asked_237 rfl ?_
                                        refine Wp.lose (ls' := [gR 133, gI p, gI t, gI w, gI a, gI (i + 1), gX 1]) ⟨.inr rfl, ⟨.inr rfl, ⟨.inr rfl, ⟨.inr rfl, ⟨.inr rfl, ⟨.inr rfl, ⟨.inl rfl, trivial⟩⟩⟩⟩⟩⟩⟩ ?_
                                        exact ih_100 _ (by omega) (i + 1) a σ208 rfl (by omega) (by omega) (by rw [es, ← ha]; unfold rcT; (repeat' split) <;> omega) (by first | exact hqv | exact hq_208)
                                      · skip
                                        refine v_iinc (pc' := 234) (x := a) (ls' := [gR 133, gI p, gI t, gI w, gI (a + 1), gI i, gI (gb (TOLD σ0 i t ≠ -1))]) (by omega) (by decide) (by rfl) (by rfl) dX12_asked_231 rfl ?_
                                        refine v_iinc (pc' := 237) (x := i) (ls' := [gR 133, gI p, gI t, gI w, gI (a + 1), gI (i + 1), gI (gb (TOLD σ0 i t ≠ -1))]) (by omega) (by decide) (by rfl) (by rfl) dX12_asked_234 rfl ?_
                                        refine w_goto (pc' := 100) dX12_asked_237 rfl ?_
                                        refine Wp.lose (ls' := [gR 133, gI p, gI t, gI w, gI (a + 1), gI (i + 1), gX 1]) ⟨.inr rfl, ⟨.inr rfl, ⟨.inr rfl, ⟨.inr rfl, ⟨.inr rfl, ⟨.inr rfl, ⟨.inl rfl, trivial⟩⟩⟩⟩⟩⟩⟩ ?_
                                        exact ih_100 _ (by omega) (i + 1) (a + 1) σ208 rfl (by omega) (by omega) (by rw [es, ← ha]; unfold rcT; (repeat' split) <;> omega) (by first | exact hqv | exact hq_208)
                                    · skip
                                      refine w_iconst (pc' := 224) (by decide) dX12_asked_223 rfl ?_
                                      refine w_goto (pc' := 228) dX12_asked_224 rfl ?_
                                      refine w_icmp_ne (pc' := 231) (t := 234) dX12_asked_228 rfl rfl (fun c_228 => ?_) (fun c_228 => ?_)
                                      · skip
                                        refine v_iinc (pc' := 237) (x := i) (ls' := [gR 133, gI p, gI t, gI w, gI a, gI (i + 1), gI (gb (TOLD σ0 i t ≠ -1))]) (by omega) (by decide) (by rfl) (by rfl) dX12_asked_234 rfl ?_
                                        refine w_goto (pc' := 100) dX12_asked_237 rfl ?_
                                        refine Wp.lose (ls' := [gR 133, gI p, gI t, gI w, gI a, gI (i + 1), gX 1]) ⟨.inr rfl, ⟨.inr rfl, ⟨.inr rfl, ⟨.inr rfl, ⟨.inr rfl, ⟨.inr rfl, ⟨.inl rfl, trivial⟩⟩⟩⟩⟩⟩⟩ ?_
                                        exact ih_100 _ (by omega) (i + 1) a σ208 rfl (by omega) (by omega) (by rw [es, ← ha]; unfold rcT; (repeat' split) <;> omega) (by first | exact hqv | exact hq_208)
                                      · skip
                                        refine v_iinc (pc' := 234) (x := a) (ls' := [gR 133, gI p, gI t, gI w, gI (a + 1), gI i, gI (gb (TOLD σ0 i t ≠ -1))]) (by omega) (by decide) (by rfl) (by rfl) dX12_asked_231 rfl ?_
                                        refine v_iinc (pc' := 237) (x := i) (ls' := [gR 133, gI p, gI t, gI w, gI (a + 1), gI (i + 1), gI (gb (TOLD σ0 i t ≠ -1))]) (by omega) (by decide) (by rfl) (by rfl) dX12_asked_234 rfl ?_
                                        refine w_goto (pc' := 100) dX12_asked_237 rfl ?_
                                        refine Wp.lose (ls' := [gR 133, gI p, gI t, gI w, gI (a + 1), gI (i + 1), gX 1]) ⟨.inr rfl, ⟨.inr rfl, ⟨.inr rfl, ⟨.inr rfl, ⟨.inr rfl, ⟨.inr rfl, ⟨.inl rfl, trivial⟩⟩⟩⟩⟩⟩⟩ ?_
                                        exact ih_100 _ (by omega) (i + 1) (a + 1) σ208 rfl (by omega) (by omega) (by rw [es, ← ha]; unfold rcT; (repeat' split) <;> omega) (by first | exact hqv | exact hq_208)
                                  · skip
                                    refine w_goto (pc' := 234) dX12_asked_201 rfl ?_
                                    refine v_iinc (pc' := 237) (x := i) (ls' := [gR 133, gI p, gI t, gI w, gI a, gI (i + 1), gI (gb (TOLD σ0 i t ≠ -1))]) (by omega) (by decide) (by rfl) (by rfl) dX12_asked_234 rfl ?_
                                    refine w_goto (pc' := 100) dX12_asked_237 rfl ?_
                                    refine Wp.lose (ls' := [gR 133, gI p, gI t, gI w, gI a, gI (i + 1), gX 1]) ⟨.inr rfl, ⟨.inr rfl, ⟨.inr rfl, ⟨.inr rfl, ⟨.inr rfl, ⟨.inr rfl, ⟨.inl rfl, trivial⟩⟩⟩⟩⟩⟩⟩ ?_
                                    exact ih_100 _ (by omega) (i + 1) a σv rfl (by omega) (by omega) (by rw [es, ← ha]; unfold rcT; (repeat' split) <;> omega) (by first | exact hqv | exact hq_208)
                              · skip
                                refine w_iload (pc' := 181) (by rfl) dX12_asked_179 rfl ?_
                                refine w_aload_n (pc' := 182) (i := 0) (by rfl) (by rfl) dX12_asked_181 rfl ?_
                                refine w_iload (pc' := 184) (by rfl) dX12_asked_182 rfl ?_
                                refine w_iload_n (pc' := 185) (i := 2) (by rfl) (by rfl) dX12_asked_184 rfl ?_
                                refine v_callVE (pc' := 188) (st' := [gI (LEAST σ0 i t), gI a]) (d' := 0) (av := [gI i, gI t]) mi_mX12_leastOf lk_X12_509 rfl ci_X12 kd_133 rfl (Nat.le_of_ble_eq_true rfl) (Nat.le_of_ble_eq_true rfl) dX12_asked_185 rfl rfl (q_leastOf hI hqv i t ⟨by omega, by omega⟩) ?_
                                refine v_iadd (pc' := 189) (by have := hle (by omega); omega) dX12_asked_188 rfl ?_
                                refine w_istore (pc' := 191) (ls' := [gR 133, gI p, gI t, gI w, gI (a + (LEAST σ0 i t)), gI i, gI (gb (TOLD σ0 i t ≠ -1))]) (by decide) (by rfl) dX12_asked_189 rfl ?_
                                refine w_iload_n (pc' := 192) (i := 3) (by rfl) (by rfl) dX12_asked_191 rfl ?_
                                refine w_iconst (pc' := 193) (by decide) dX12_asked_192 rfl ?_
                                refine w_icmp_eq (pc' := 196) (t := 204) dX12_asked_193 rfl rfl (fun c_193 => ?_) (fun c_193 => ?_)
                                · skip
                                  refine w_aload_n (pc' := 205) (i := 0) (by rfl) (by rfl) dX12_asked_204 rfl ?_
                                  refine w_iload (pc' := 207) (by rfl) dX12_asked_205 rfl ?_
                                  refine w_iload_n (pc' := 208) (i := 2) (by rfl) (by rfl) dX12_asked_207 rfl ?_
                                  refine w_callV (pc' := 211) (d' := 4) (av := [gI i, gI t]) mi_mX12_judge lk_X12_537 rfl ci_X12 kd_133 rfl (Nat.le_of_ble_eq_true rfl) (Nat.le_of_ble_eq_true rfl) dX12_asked_208 rfl (q_judge hI hqv i t ⟨by omega, by omega⟩ rfl) (fun v_208 σ208 q_208 => ?_)
                                  obtain ⟨rfl, hq_208, hr_208, hd_208, _, _, _, _⟩ := q_208
                                  show Wp _ _ _ _ _ _ []
                                  refine w_aload_n (pc' := 212) (i := 0) (by rfl) (by rfl) dX12_asked_211 rfl ?_
                                  refine w_iload (pc' := 214) (by rfl) dX12_asked_212 rfl ?_
                                  refine w_iload_n (pc' := 215) (i := 2) (by rfl) (by rfl) dX12_asked_214 rfl ?_
                                  refine v_callVE (pc' := 218) (st' := [gI (STV σ0 i t)]) (d' := 3) (av := [gI i, gI t]) mi_mX12_stateOf lk_X12_540 rfl ci_X12 kd_133 rfl (Nat.le_of_ble_eq_true rfl) (Nat.le_of_ble_eq_true rfl) dX12_asked_215 rfl rfl (q_stateOf hI hq_208 i t ⟨by omega, by omega⟩ hr_208 hd_208) ?_
                                  refine w_iload_n (pc' := 219) (i := 3) (by rfl) (by rfl) dX12_asked_218 rfl ?_
                                  refine w_iconst (pc' := 220) (by decide) dX12_asked_219 rfl ?_
                                  refine w_icmp_ne (pc' := 223) (t := 227) dX12_asked_220 rfl rfl (fun c_220 => ?_) (fun c_220 => ?_)
                                  · skip
                                    refine w_iconst (pc' := 228) (by decide) dX12_asked_227 rfl ?_
                                    refine w_icmp_ne (pc' := 231) (t := 234) dX12_asked_228 rfl rfl (fun c_228 => ?_) (fun c_228 => ?_)
                                    · skip
                                      refine v_iinc (pc' := 237) (x := i) (ls' := [gR 133, gI p, gI t, gI w, gI (a + (LEAST σ0 i t)), gI (i + 1), gI (gb (TOLD σ0 i t ≠ -1))]) (by omega) (by decide) (by rfl) (by rfl) dX12_asked_234 rfl ?_
                                      refine w_goto (pc' := 100) dX12_asked_237 rfl ?_
                                      refine Wp.lose (ls' := [gR 133, gI p, gI t, gI w, gI (a + (LEAST σ0 i t)), gI (i + 1), gX 1]) ⟨.inr rfl, ⟨.inr rfl, ⟨.inr rfl, ⟨.inr rfl, ⟨.inr rfl, ⟨.inr rfl, ⟨.inl rfl, trivial⟩⟩⟩⟩⟩⟩⟩ ?_
                                      exact ih_100 _ (by omega) (i + 1) (a + (LEAST σ0 i t)) σ208 rfl (by omega) (by omega) (by rw [es, ← ha]; unfold rcT; (repeat' split) <;> omega) (by first | exact hqv | exact hq_208)
                                    · skip
                                      refine v_iinc (pc' := 234) (x := (a + (LEAST σ0 i t))) (ls' := [gR 133, gI p, gI t, gI w, gI ((a + (LEAST σ0 i t)) + 1), gI i, gI (gb (TOLD σ0 i t ≠ -1))]) (by omega) (by decide) (by rfl) (by rfl) dX12_asked_231 rfl ?_
                                      refine v_iinc (pc' := 237) (x := i) (ls' := [gR 133, gI p, gI t, gI w, gI ((a + (LEAST σ0 i t)) + 1), gI (i + 1), gI (gb (TOLD σ0 i t ≠ -1))]) (by omega) (by decide) (by rfl) (by rfl) dX12_asked_234 rfl ?_
                                      refine w_goto (pc' := 100) dX12_asked_237 rfl ?_
                                      refine Wp.lose (ls' := [gR 133, gI p, gI t, gI w, gI ((a + (LEAST σ0 i t)) + 1), gI (i + 1), gX 1]) ⟨.inr rfl, ⟨.inr rfl, ⟨.inr rfl, ⟨.inr rfl, ⟨.inr rfl, ⟨.inr rfl, ⟨.inl rfl, trivial⟩⟩⟩⟩⟩⟩⟩ ?_
                                      exact ih_100 _ (by omega) (i + 1) ((a + (LEAST σ0 i t)) + 1) σ208 rfl (by omega) (by omega) (by rw [es, ← ha]; unfold rcT; (repeat' split) <;> omega) (by first | exact hqv | exact hq_208)
                                  · skip
                                    refine w_iconst (pc' := 224) (by decide) dX12_asked_223 rfl ?_
                                    refine w_goto (pc' := 228) dX12_asked_224 rfl ?_
                                    refine w_icmp_ne (pc' := 231) (t := 234) dX12_asked_228 rfl rfl (fun c_228 => ?_) (fun c_228 => ?_)
                                    · skip
                                      refine v_iinc (pc' := 237) (x := i) (ls' := [gR 133, gI p, gI t, gI w, gI (a + (LEAST σ0 i t)), gI (i + 1), gI (gb (TOLD σ0 i t ≠ -1))]) (by omega) (by decide) (by rfl) (by rfl) dX12_asked_234 rfl ?_
                                      refine w_goto (pc' := 100) dX12_asked_237 rfl ?_
                                      refine Wp.lose (ls' := [gR 133, gI p, gI t, gI w, gI (a + (LEAST σ0 i t)), gI (i + 1), gX 1]) ⟨.inr rfl, ⟨.inr rfl, ⟨.inr rfl, ⟨.inr rfl, ⟨.inr rfl, ⟨.inr rfl, ⟨.inl rfl, trivial⟩⟩⟩⟩⟩⟩⟩ ?_
                                      exact ih_100 _ (by omega) (i + 1) (a + (LEAST σ0 i t)) σ208 rfl (by omega) (by omega) (by rw [es, ← ha]; unfold rcT; (repeat' split) <;> omega) (by first | exact hqv | exact hq_208)
                                    · skip
                                      refine v_iinc (pc' := 234) (x := (a + (LEAST σ0 i t))) (ls' := [gR 133, gI p, gI t, gI w, gI ((a + (LEAST σ0 i t)) + 1), gI i, gI (gb (TOLD σ0 i t ≠ -1))]) (by omega) (by decide) (by rfl) (by rfl) dX12_asked_231 rfl ?_
                                      refine v_iinc (pc' := 237) (x := i) (ls' := [gR 133, gI p, gI t, gI w, gI ((a + (LEAST σ0 i t)) + 1), gI (i + 1), gI (gb (TOLD σ0 i t ≠ -1))]) (by omega) (by decide) (by rfl) (by rfl) dX12_asked_234 rfl ?_
                                      refine w_goto (pc' := 100) dX12_asked_237 rfl ?_
                                      refine Wp.lose (ls' := [gR 133, gI p, gI t, gI w, gI ((a + (LEAST σ0 i t)) + 1), gI (i + 1), gX 1]) ⟨.inr rfl, ⟨.inr rfl, ⟨.inr rfl, ⟨.inr rfl, ⟨.inr rfl, ⟨.inr rfl, ⟨.inl rfl, trivial⟩⟩⟩⟩⟩⟩⟩ ?_
                                      exact ih_100 _ (by omega) (i + 1) ((a + (LEAST σ0 i t)) + 1) σ208 rfl (by omega) (by omega) (by rw [es, ← ha]; unfold rcT; (repeat' split) <;> omega) (by first | exact hqv | exact hq_208)
                                · skip
                                  refine w_iload_n (pc' := 197) (i := 3) (by rfl) (by rfl) dX12_asked_196 rfl ?_
                                  refine w_iconst (pc' := 198) (by decide) dX12_asked_197 rfl ?_
                                  refine w_icmp_eq (pc' := 201) (t := 204) dX12_asked_198 rfl rfl (fun c_198 => ?_) (fun c_198 => ?_)
                                  · skip
                                    refine w_aload_n (pc' := 205) (i := 0) (by rfl) (by rfl) dX12_asked_204 rfl ?_
                                    refine w_iload (pc' := 207) (by rfl) dX12_asked_205 rfl ?_
                                    refine w_iload_n (pc' := 208) (i := 2) (by rfl) (by rfl) dX12_asked_207 rfl ?_
                                    refine w_callV (pc' := 211) (d' := 4) (av := [gI i, gI t]) mi_mX12_judge lk_X12_537 rfl ci_X12 kd_133 rfl (Nat.le_of_ble_eq_true rfl) (Nat.le_of_ble_eq_true rfl) dX12_asked_208 rfl (q_judge hI hqv i t ⟨by omega, by omega⟩ rfl) (fun v_208 σ208 q_208 => ?_)
                                    obtain ⟨rfl, hq_208, hr_208, hd_208, _, _, _, _⟩ := q_208
                                    show Wp _ _ _ _ _ _ []
                                    refine w_aload_n (pc' := 212) (i := 0) (by rfl) (by rfl) dX12_asked_211 rfl ?_
                                    refine w_iload (pc' := 214) (by rfl) dX12_asked_212 rfl ?_
                                    refine w_iload_n (pc' := 215) (i := 2) (by rfl) (by rfl) dX12_asked_214 rfl ?_
                                    refine v_callVE (pc' := 218) (st' := [gI (STV σ0 i t)]) (d' := 3) (av := [gI i, gI t]) mi_mX12_stateOf lk_X12_540 rfl ci_X12 kd_133 rfl (Nat.le_of_ble_eq_true rfl) (Nat.le_of_ble_eq_true rfl) dX12_asked_215 rfl rfl (q_stateOf hI hq_208 i t ⟨by omega, by omega⟩ hr_208 hd_208) ?_
                                    refine w_iload_n (pc' := 219) (i := 3) (by rfl) (by rfl) dX12_asked_218 rfl ?_
                                    refine w_iconst (pc' := 220) (by decide) dX12_asked_219 rfl ?_
                                    refine w_icmp_ne (pc' := 223) (t := 227) dX12_asked_220 rfl rfl (fun c_220 => ?_) (fun c_220 => ?_)
                                    · skip
                                      refine w_iconst (pc' := 228) (by decide) dX12_asked_227 rfl ?_
                                      refine w_icmp_ne (pc' := 231) (t := 234) dX12_asked_228 rfl rfl (fun c_228 => ?_) (fun c_228 => ?_)
                                      · skip
                                        refine v_iinc (pc' := 237) (x := i) (ls' := [gR 133, gI p, gI t, gI w, gI (a + (LEAST σ0 i t)), gI (i + 1), gI (gb (TOLD σ0 i t ≠ -1))]) (by omega) (by decide) (by rfl) (by rfl) dX12_asked_234 rfl ?_
                                        refine w_goto (pc' := 100) dX12_asked_237 rfl ?_
                                        refine Wp.lose (ls' := [gR 133, gI p, gI t, gI w, gI (a + (LEAST σ0 i t)), gI (i + 1), gX 1]) ⟨.inr rfl, ⟨.inr rfl, ⟨.inr rfl, ⟨.inr rfl, ⟨.inr rfl, ⟨.inr rfl, ⟨.inl rfl, trivial⟩⟩⟩⟩⟩⟩⟩ ?_
                                        exact ih_100 _ (by omega) (i + 1) (a + (LEAST σ0 i t)) σ208 rfl (by omega) (by omega) (by rw [es, ← ha]; unfold rcT; (repeat' split) <;> omega) (by first | exact hqv | exact hq_208)
                                      · skip
                                        refine v_iinc (pc' := 234) (x := (a + (LEAST σ0 i t))) (ls' := [gR 133, gI p, gI t, gI w, gI ((a + (LEAST σ0 i t)) + 1), gI i, gI (gb (TOLD σ0 i t ≠ -1))]) (by omega) (by decide) (by rfl) (by rfl) dX12_asked_231 rfl ?_
                                        refine v_iinc (pc' := 237) (x := i) (ls' := [gR 133, gI p, gI t, gI w, gI ((a + (LEAST σ0 i t)) + 1), gI (i + 1), gI (gb (TOLD σ0 i t ≠ -1))]) (by omega) (by decide) (by rfl) (by rfl) dX12_asked_234 rfl ?_
                                        refine w_goto (pc' := 100) dX12_asked_237 rfl ?_
                                        refine Wp.lose (ls' := [gR 133, gI p, gI t, gI w, gI ((a + (LEAST σ0 i t)) + 1), gI (i + 1), gX 1]) ⟨.inr rfl, ⟨.inr rfl, ⟨.inr rfl, ⟨.inr rfl, ⟨.inr rfl, ⟨.inr rfl, ⟨.inl rfl, trivial⟩⟩⟩⟩⟩⟩⟩ ?_
                                        exact ih_100 _ (by omega) (i + 1) ((a + (LEAST σ0 i t)) + 1) σ208 rfl (by omega) (by omega) (by rw [es, ← ha]; unfold rcT; (repeat' split) <;> omega) (by first | exact hqv | exact hq_208)
                                    · skip
                                      refine w_iconst (pc' := 224) (by decide) dX12_asked_223 rfl ?_
                                      refine w_goto (pc' := 228) dX12_asked_224 rfl ?_
                                      refine w_icmp_ne (pc' := 231) (t := 234) dX12_asked_228 rfl rfl (fun c_228 => ?_) (fun c_228 => ?_)
                                      · skip
                                        refine v_iinc (pc' := 237) (x := i) (ls' := [gR 133, gI p, gI t, gI w, gI (a + (LEAST σ0 i t)), gI (i + 1), gI (gb (TOLD σ0 i t ≠ -1))]) (by omega) (by decide) (by rfl) (by rfl) dX12_asked_234 rfl ?_
                                        refine w_goto (pc' := 100) dX12_asked_237 rfl ?_
                                        refine Wp.lose (ls' := [gR 133, gI p, gI t, gI w, gI (a + (LEAST σ0 i t)), gI (i + 1), gX 1]) ⟨.inr rfl, ⟨.inr rfl, ⟨.inr rfl, ⟨.inr rfl, ⟨.inr rfl, ⟨.inr rfl, ⟨.inl rfl, trivial⟩⟩⟩⟩⟩⟩⟩ ?_
                                        exact ih_100 _ (by omega) (i + 1) (a + (LEAST σ0 i t)) σ208 rfl (by omega) (by omega) (by rw [es, ← ha]; unfold rcT; (repeat' split) <;> omega) (by first | exact hqv | exact hq_208)
                                      · skip
                                        refine v_iinc (pc' := 234) (x := (a + (LEAST σ0 i t))) (ls' := [gR 133, gI p, gI t, gI w, gI ((a + (LEAST σ0 i t)) + 1), gI i, gI (gb (TOLD σ0 i t ≠ -1))]) (by omega) (by decide) (by rfl) (by rfl) dX12_asked_231 rfl ?_
                                        refine v_iinc (pc' := 237) (x := i) (ls' := [gR 133, gI p, gI t, gI w, gI ((a + (LEAST σ0 i t)) + 1), gI (i + 1), gI (gb (TOLD σ0 i t ≠ -1))]) (by omega) (by decide) (by rfl) (by rfl) dX12_asked_234 rfl ?_
                                        refine w_goto (pc' := 100) dX12_asked_237 rfl ?_
                                        refine Wp.lose (ls' := [gR 133, gI p, gI t, gI w, gI ((a + (LEAST σ0 i t)) + 1), gI (i + 1), gX 1]) ⟨.inr rfl, ⟨.inr rfl, ⟨.inr rfl, ⟨.inr rfl, ⟨.inr rfl, ⟨.inr rfl, ⟨.inl rfl, trivial⟩⟩⟩⟩⟩⟩⟩ ?_
                                        exact ih_100 _ (by omega) (i + 1) ((a + (LEAST σ0 i t)) + 1) σ208 rfl (by omega) (by omega) (by rw [es, ← ha]; unfold rcT; (repeat' split) <;> omega) (by first | exact hqv | exact hq_208)
                                  · skip
                                    refine w_goto (pc' := 234) dX12_asked_201 rfl ?_
                                    refine v_iinc (pc' := 237) (x := i) (ls' := [gR 133, gI p, gI t, gI w, gI (a + (LEAST σ0 i t)), gI (i + 1), gI (gb (TOLD σ0 i t ≠ -1))]) (by omega) (by decide) (by rfl) (by rfl) dX12_asked_234 rfl ?_
                                    refine w_goto (pc' := 100) dX12_asked_237 rfl ?_
                                    refine Wp.lose (ls' := [gR 133, gI p, gI t, gI w, gI (a + (LEAST σ0 i t)), gI (i + 1), gX 1]) ⟨.inr rfl, ⟨.inr rfl, ⟨.inr rfl, ⟨.inr rfl, ⟨.inr rfl, ⟨.inr rfl, ⟨.inl rfl, trivial⟩⟩⟩⟩⟩⟩⟩ ?_
                                    exact ih_100 _ (by omega) (i + 1) (a + (LEAST σ0 i t)) σv rfl (by omega) (by omega) (by rw [es, ← ha]; unfold rcT; (repeat' split) <;> omega) (by first | exact hqv | exact hq_208)
                          · skip
                            refine v_iinc (pc' := 169) (x := a) (ls' := [gR 133, gI p, gI t, gI w, gI (a + 1), gI i, gI (gb (TOLD σ0 i t ≠ -1))]) (by omega) (by decide) (by rfl) (by rfl) dX12_asked_166 rfl ?_
                            refine w_iload_n (pc' := 170) (i := 3) (by rfl) (by rfl) dX12_asked_169 rfl ?_
                            refine w_iconst (pc' := 171) (by decide) dX12_asked_170 rfl ?_
                            refine w_icmp_ne (pc' := 174) (t := 191) dX12_asked_171 rfl rfl (fun c_171 => ?_) (fun c_171 => ?_)
                            · skip
                              refine w_iload_n (pc' := 192) (i := 3) (by rfl) (by rfl) dX12_asked_191 rfl ?_
                              refine w_iconst (pc' := 193) (by decide) dX12_asked_192 rfl ?_
                              refine w_icmp_eq (pc' := 196) (t := 204) dX12_asked_193 rfl rfl (fun c_193 => ?_) (fun c_193 => ?_)
                              · skip
                                refine w_aload_n (pc' := 205) (i := 0) (by rfl) (by rfl) dX12_asked_204 rfl ?_
                                refine w_iload (pc' := 207) (by rfl) dX12_asked_205 rfl ?_
                                refine w_iload_n (pc' := 208) (i := 2) (by rfl) (by rfl) dX12_asked_207 rfl ?_
                                refine w_callV (pc' := 211) (d' := 4) (av := [gI i, gI t]) mi_mX12_judge lk_X12_537 rfl ci_X12 kd_133 rfl (Nat.le_of_ble_eq_true rfl) (Nat.le_of_ble_eq_true rfl) dX12_asked_208 rfl (q_judge hI hqv i t ⟨by omega, by omega⟩ rfl) (fun v_208 σ208 q_208 => ?_)
                                obtain ⟨rfl, hq_208, hr_208, hd_208, _, _, _, _⟩ := q_208
                                show Wp _ _ _ _ _ _ []
                                refine w_aload_n (pc' := 212) (i := 0) (by rfl) (by rfl) dX12_asked_211 rfl ?_
                                refine w_iload (pc' := 214) (by rfl) dX12_asked_212 rfl ?_
                                refine w_iload_n (pc' := 215) (i := 2) (by rfl) (by rfl) dX12_asked_214 rfl ?_
                                refine v_callVE (pc' := 218) (st' := [gI (STV σ0 i t)]) (d' := 3) (av := [gI i, gI t]) mi_mX12_stateOf lk_X12_540 rfl ci_X12 kd_133 rfl (Nat.le_of_ble_eq_true rfl) (Nat.le_of_ble_eq_true rfl) dX12_asked_215 rfl rfl (q_stateOf hI hq_208 i t ⟨by omega, by omega⟩ hr_208 hd_208) ?_
                                refine w_iload_n (pc' := 219) (i := 3) (by rfl) (by rfl) dX12_asked_218 rfl ?_
                                refine w_iconst (pc' := 220) (by decide) dX12_asked_219 rfl ?_
                                refine w_icmp_ne (pc' := 223) (t := 227) dX12_asked_220 rfl rfl (fun c_220 => ?_) (fun c_220 => ?_)
                                · skip
                                  refine w_iconst (pc' := 228) (by decide) dX12_asked_227 rfl ?_
                                  refine w_icmp_ne (pc' := 231) (t := 234) dX12_asked_228 rfl rfl (fun c_228 => ?_) (fun c_228 => ?_)
                                  · skip
                                    refine v_iinc (pc' := 237) (x := i) (ls' := [gR 133, gI p, gI t, gI w, gI (a + 1), gI (i + 1), gI (gb (TOLD σ0 i t ≠ -1))]) (by omega) (by decide) (by rfl) (by rfl) dX12_asked_234 rfl ?_
                                    refine w_goto (pc' := 100) dX12_asked_237 rfl ?_
                                    refine Wp.lose (ls' := [gR 133, gI p, gI t, gI w, gI (a + 1), gI (i + 1), gX 1]) ⟨.inr rfl, ⟨.inr rfl, ⟨.inr rfl, ⟨.inr rfl, ⟨.inr rfl, ⟨.inr rfl, ⟨.inl rfl, trivial⟩⟩⟩⟩⟩⟩⟩ ?_
                                    exact ih_100 _ (by omega) (i + 1) (a + 1) σ208 rfl (by omega) (by omega) (by rw [es, ← ha]; unfold rcT; (repeat' split) <;> omega) (by first | exact hqv | exact hq_208)
                                  · skip
                                    refine v_iinc (pc' := 234) (x := (a + 1)) (ls' := [gR 133, gI p, gI t, gI w, gI ((a + 1) + 1), gI i, gI (gb (TOLD σ0 i t ≠ -1))]) (by omega) (by decide) (by rfl) (by rfl) dX12_asked_231 rfl ?_
                                    refine v_iinc (pc' := 237) (x := i) (ls' := [gR 133, gI p, gI t, gI w, gI ((a + 1) + 1), gI (i + 1), gI (gb (TOLD σ0 i t ≠ -1))]) (by omega) (by decide) (by rfl) (by rfl) dX12_asked_234 rfl ?_
                                    refine w_goto (pc' := 100) dX12_asked_237 rfl ?_
                                    refine Wp.lose (ls' := [gR 133, gI p, gI t, gI w, gI ((a + 1) + 1), gI (i + 1), gX 1]) ⟨.inr rfl, ⟨.inr rfl, ⟨.inr rfl, ⟨.inr rfl, ⟨.inr rfl, ⟨.inr rfl, ⟨.inl rfl, trivial⟩⟩⟩⟩⟩⟩⟩ ?_
                                    exact ih_100 _ (by omega) (i + 1) ((a + 1) + 1) σ208 rfl (by omega) (by omega) (by rw [es, ← ha]; unfold rcT; (repeat' split) <;> omega) (by first | exact hqv | exact hq_208)
                                · skip
                                  refine w_iconst (pc' := 224) (by decide) dX12_asked_223 rfl ?_
                                  refine w_goto (pc' := 228) dX12_asked_224 rfl ?_
                                  refine w_icmp_ne (pc' := 231) (t := 234) dX12_asked_228 rfl rfl (fun c_228 => ?_) (fun c_228 => ?_)
                                  · skip
                                    refine v_iinc (pc' := 237) (x := i) (ls' := [gR 133, gI p, gI t, gI w, gI (a + 1), gI (i + 1), gI (gb (TOLD σ0 i t ≠ -1))]) (by omega) (by decide) (by rfl) (by rfl) dX12_asked_234 rfl ?_
                                    refine w_goto (pc' := 100) dX12_asked_237 rfl ?_
                                    refine Wp.lose (ls' := [gR 133, gI p, gI t, gI w, gI (a + 1), gI (i + 1), gX 1]) ⟨.inr rfl, ⟨.inr rfl, ⟨.inr rfl, ⟨.inr rfl, ⟨.inr rfl, ⟨.inr rfl, ⟨.inl rfl, trivial⟩⟩⟩⟩⟩⟩⟩ ?_
                                    exact ih_100 _ (by omega) (i + 1) (a + 1) σ208 rfl (by omega) (by omega) (by rw [es, ← ha]; unfold rcT; (repeat' split) <;> omega) (by first | exact hqv | exact hq_208)
                                  · skip
                                    refine v_iinc (pc' := 234) (x := (a + 1)) (ls' := [gR 133, gI p, gI t, gI w, gI ((a + 1) + 1), gI i, gI (gb (TOLD σ0 i t ≠ -1))]) (by omega) (by decide) (by rfl) (by rfl) dX12_asked_231 rfl ?_
                                    refine v_iinc (pc' := 237) (x := i) (ls' := [gR 133, gI p, gI t, gI w, gI ((a + 1) + 1), gI (i + 1), gI (gb (TOLD σ0 i t ≠ -1))]) (by omega) (by decide) (by rfl) (by rfl) dX12_asked_234 rfl ?_
                                    refine w_goto (pc' := 100) dX12_asked_237 rfl ?_
                                    refine Wp.lose (ls' := [gR 133, gI p, gI t, gI w, gI ((a + 1) + 1), gI (i + 1), gX 1]) ⟨.inr rfl, ⟨.inr rfl, ⟨.inr rfl, ⟨.inr rfl, ⟨.inr rfl, ⟨.inr rfl, ⟨.inl rfl, trivial⟩⟩⟩⟩⟩⟩⟩ ?_
                                    exact ih_100 _ (by omega) (i + 1) ((a + 1) + 1) σ208 rfl (by omega) (by omega) (by rw [es, ← ha]; unfold rcT; (repeat' split) <;> omega) (by first | exact hqv | exact hq_208)
                              · skip
                                refine w_iload_n (pc' := 197) (i := 3) (by rfl) (by rfl) dX12_asked_196 rfl ?_
                                refine w_iconst (pc' := 198) (by decide) dX12_asked_197 rfl ?_
                                refine w_icmp_eq (pc' := 201) (t := 204) dX12_asked_198 rfl rfl (fun c_198 => ?_) (fun c_198 => ?_)
                                · skip
                                  refine w_aload_n (pc' := 205) (i := 0) (by rfl) (by rfl) dX12_asked_204 rfl ?_
                                  refine w_iload (pc' := 207) (by rfl) dX12_asked_205 rfl ?_
                                  refine w_iload_n (pc' := 208) (i := 2) (by rfl) (by rfl) dX12_asked_207 rfl ?_
                                  refine w_callV (pc' := 211) (d' := 4) (av := [gI i, gI t]) mi_mX12_judge lk_X12_537 rfl ci_X12 kd_133 rfl (Nat.le_of_ble_eq_true rfl) (Nat.le_of_ble_eq_true rfl) dX12_asked_208 rfl (q_judge hI hqv i t ⟨by omega, by omega⟩ rfl) (fun v_208 σ208 q_208 => ?_)
                                  obtain ⟨rfl, hq_208, hr_208, hd_208, _, _, _, _⟩ := q_208
                                  show Wp _ _ _ _ _ _ []
                                  refine w_aload_n (pc' := 212) (i := 0) (by rfl) (by rfl) dX12_asked_211 rfl ?_
                                  refine w_iload (pc' := 214) (by rfl) dX12_asked_212 rfl ?_
                                  refine w_iload_n (pc' := 215) (i := 2) (by rfl) (by rfl) dX12_asked_214 rfl ?_
                                  refine v_callVE (pc' := 218) (st' := [gI (STV σ0 i t)]) (d' := 3) (av := [gI i, gI t]) mi_mX12_stateOf lk_X12_540 rfl ci_X12 kd_133 rfl (Nat.le_of_ble_eq_true rfl) (Nat.le_of_ble_eq_true rfl) dX12_asked_215 rfl rfl (q_stateOf hI hq_208 i t ⟨by omega, by omega⟩ hr_208 hd_208) ?_
                                  refine w_iload_n (pc' := 219) (i := 3) (by rfl) (by rfl) dX12_asked_218 rfl ?_
                                  refine w_iconst (pc' := 220) (by decide) dX12_asked_219 rfl ?_
                                  refine w_icmp_ne (pc' := 223) (t := 227) dX12_asked_220 rfl rfl (fun c_220 => ?_) (fun c_220 => ?_)
                                  · skip
                                    refine w_iconst (pc' := 228) (by decide) dX12_asked_227 rfl ?_
                                    refine w_icmp_ne (pc' := 231) (t := 234) dX12_asked_228 rfl rfl (fun c_228 => ?_) (fun c_228 => ?_)
                                    · skip
                                      refine v_iinc (pc' := 237) (x := i) (ls' := [gR 133, gI p, gI t, gI w, gI (a + 1), gI (i + 1), gI (gb (TOLD σ0 i t ≠ -1))]) (by omega) (by decide) (by rfl) (by rfl) dX12_asked_234 rfl ?_
                                      refine w_goto (pc' := 100) dX12_asked_237 rfl ?_
                                      refine Wp.lose (ls' := [gR 133, gI p, gI t, gI w, gI (a + 1), gI (i + 1), gX 1]) ⟨.inr rfl, ⟨.inr rfl, ⟨.inr rfl, ⟨.inr rfl, ⟨.inr rfl, ⟨.inr rfl, ⟨.inl rfl, trivial⟩⟩⟩⟩⟩⟩⟩ ?_
                                      exact ih_100 _ (by omega) (i + 1) (a + 1) σ208 rfl (by omega) (by omega) (by rw [es, ← ha]; unfold rcT; (repeat' split) <;> omega) (by first | exact hqv | exact hq_208)
                                    · skip
                                      refine v_iinc (pc' := 234) (x := (a + 1)) (ls' := [gR 133, gI p, gI t, gI w, gI ((a + 1) + 1), gI i, gI (gb (TOLD σ0 i t ≠ -1))]) (by omega) (by decide) (by rfl) (by rfl) dX12_asked_231 rfl ?_
                                      refine v_iinc (pc' := 237) (x := i) (ls' := [gR 133, gI p, gI t, gI w, gI ((a + 1) + 1), gI (i + 1), gI (gb (TOLD σ0 i t ≠ -1))]) (by omega) (by decide) (by rfl) (by rfl) dX12_asked_234 rfl ?_
                                      refine w_goto (pc' := 100) dX12_asked_237 rfl ?_
                                      refine Wp.lose (ls' := [gR 133, gI p, gI t, gI w, gI ((a + 1) + 1), gI (i + 1), gX 1]) ⟨.inr rfl, ⟨.inr rfl, ⟨.inr rfl, ⟨.inr rfl, ⟨.inr rfl, ⟨.inr rfl, ⟨.inl rfl, trivial⟩⟩⟩⟩⟩⟩⟩ ?_
                                      exact ih_100 _ (by omega) (i + 1) ((a + 1) + 1) σ208 rfl (by omega) (by omega) (by rw [es, ← ha]; unfold rcT; (repeat' split) <;> omega) (by first | exact hqv | exact hq_208)
                                  · skip
                                    refine w_iconst (pc' := 224) (by decide) dX12_asked_223 rfl ?_
                                    refine w_goto (pc' := 228) dX12_asked_224 rfl ?_
                                    refine w_icmp_ne (pc' := 231) (t := 234) dX12_asked_228 rfl rfl (fun c_228 => ?_) (fun c_228 => ?_)
                                    · skip
                                      refine v_iinc (pc' := 237) (x := i) (ls' := [gR 133, gI p, gI t, gI w, gI (a + 1), gI (i + 1), gI (gb (TOLD σ0 i t ≠ -1))]) (by omega) (by decide) (by rfl) (by rfl) dX12_asked_234 rfl ?_
                                      refine w_goto (pc' := 100) dX12_asked_237 rfl ?_
                                      refine Wp.lose (ls' := [gR 133, gI p, gI t, gI w, gI (a + 1), gI (i + 1), gX 1]) ⟨.inr rfl, ⟨.inr rfl, ⟨.inr rfl, ⟨.inr rfl, ⟨.inr rfl, ⟨.inr rfl, ⟨.inl rfl, trivial⟩⟩⟩⟩⟩⟩⟩ ?_
                                      exact ih_100 _ (by omega) (i + 1) (a + 1) σ208 rfl (by omega) (by omega) (by rw [es, ← ha]; unfold rcT; (repeat' split) <;> omega) (by first | exact hqv | exact hq_208)
                                    · skip
                                      refine v_iinc (pc' := 234) (x := (a + 1)) (ls' := [gR 133, gI p, gI t, gI w, gI ((a + 1) + 1), gI i, gI (gb (TOLD σ0 i t ≠ -1))]) (by omega) (by decide) (by rfl) (by rfl) dX12_asked_231 rfl ?_
                                      refine v_iinc (pc' := 237) (x := i) (ls' := [gR 133, gI p, gI t, gI w, gI ((a + 1) + 1), gI (i + 1), gI (gb (TOLD σ0 i t ≠ -1))]) (by omega) (by decide) (by rfl) (by rfl) dX12_asked_234 rfl ?_
                                      refine w_goto (pc' := 100) dX12_asked_237 rfl ?_
                                      refine Wp.lose (ls' := [gR 133, gI p, gI t, gI w, gI ((a + 1) + 1), gI (i + 1), gX 1]) ⟨.inr rfl, ⟨.inr rfl, ⟨.inr rfl, ⟨.inr rfl, ⟨.inr rfl, ⟨.inr rfl, ⟨.inl rfl, trivial⟩⟩⟩⟩⟩⟩⟩ ?_
                                      exact ih_100 _ (by omega) (i + 1) ((a + 1) + 1) σ208 rfl (by omega) (by omega) (by rw [es, ← ha]; unfold rcT; (repeat' split) <;> omega) (by first | exact hqv | exact hq_208)
                                · skip
                                  refine w_goto (pc' := 234) dX12_asked_201 rfl ?_
                                  refine v_iinc (pc' := 237) (x := i) (ls' := [gR 133, gI p, gI t, gI w, gI (a + 1), gI (i + 1), gI (gb (TOLD σ0 i t ≠ -1))]) (by omega) (by decide) (by rfl) (by rfl) dX12_asked_234 rfl ?_
                                  refine w_goto (pc' := 100) dX12_asked_237 rfl ?_
                                  refine Wp.lose (ls' := [gR 133, gI p, gI t, gI w, gI (a + 1), gI (i + 1), gX 1]) ⟨.inr rfl, ⟨.inr rfl, ⟨.inr rfl, ⟨.inr rfl, ⟨.inr rfl, ⟨.inr rfl, ⟨.inl rfl, trivial⟩⟩⟩⟩⟩⟩⟩ ?_
                                  exact ih_100 _ (by omega) (i + 1) (a + 1) σv rfl (by omega) (by omega) (by rw [es, ← ha]; unfold rcT; (repeat' split) <;> omega) (by first | exact hqv | exact hq_208)
                            · skip
                              refine w_iload (pc' := 176) (by rfl) dX12_asked_174 rfl ?_
                              refine v_if_eqB (pc' := 179) (t := 191) dX12_asked_176 rfl rfl (fun c_176 => ?_) (fun c_176 => ?_)
                              · skip
                                refine w_iload_n (pc' := 192) (i := 3) (by rfl) (by rfl) dX12_asked_191 rfl ?_
                                refine w_iconst (pc' := 193) (by decide) dX12_asked_192 rfl ?_
                                refine w_icmp_eq (pc' := 196) (t := 204) dX12_asked_193 rfl rfl (fun c_193 => ?_) (fun c_193 => ?_)
                                · skip
                                  refine w_aload_n (pc' := 205) (i := 0) (by rfl) (by rfl) dX12_asked_204 rfl ?_
                                  refine w_iload (pc' := 207) (by rfl) dX12_asked_205 rfl ?_
                                  refine w_iload_n (pc' := 208) (i := 2) (by rfl) (by rfl) dX12_asked_207 rfl ?_
                                  refine w_callV (pc' := 211) (d' := 4) (av := [gI i, gI t]) mi_mX12_judge lk_X12_537 rfl ci_X12 kd_133 rfl (Nat.le_of_ble_eq_true rfl) (Nat.le_of_ble_eq_true rfl) dX12_asked_208 rfl (q_judge hI hqv i t ⟨by omega, by omega⟩ rfl) (fun v_208 σ208 q_208 => ?_)
                                  obtain ⟨rfl, hq_208, hr_208, hd_208, _, _, _, _⟩ := q_208
                                  show Wp _ _ _ _ _ _ []
                                  refine w_aload_n (pc' := 212) (i := 0) (by rfl) (by rfl) dX12_asked_211 rfl ?_
                                  refine w_iload (pc' := 214) (by rfl) dX12_asked_212 rfl ?_
                                  refine w_iload_n (pc' := 215) (i := 2) (by rfl) (by rfl) dX12_asked_214 rfl ?_
                                  refine v_callVE (pc' := 218) (st' := [gI (STV σ0 i t)]) (d' := 3) (av := [gI i, gI t]) mi_mX12_stateOf lk_X12_540 rfl ci_X12 kd_133 rfl (Nat.le_of_ble_eq_true rfl) (Nat.le_of_ble_eq_true rfl) dX12_asked_215 rfl rfl (q_stateOf hI hq_208 i t ⟨by omega, by omega⟩ hr_208 hd_208) ?_
                                  refine w_iload_n (pc' := 219) (i := 3) (by rfl) (by rfl) dX12_asked_218 rfl ?_
                                  refine w_iconst (pc' := 220) (by decide) dX12_asked_219 rfl ?_
                                  refine w_icmp_ne (pc' := 223) (t := 227) dX12_asked_220 rfl rfl (fun c_220 => ?_) (fun c_220 => ?_)
                                  · skip
                                    refine w_iconst (pc' := 228) (by decide) dX12_asked_227 rfl ?_
                                    refine w_icmp_ne (pc' := 231) (t := 234) dX12_asked_228 rfl rfl (fun c_228 => ?_) (fun c_228 => ?_)
                                    · skip
                                      refine v_iinc (pc' := 237) (x := i) (ls' := [gR 133, gI p, gI t, gI w, gI (a + 1), gI (i + 1), gI (gb (TOLD σ0 i t ≠ -1))]) (by omega) (by decide) (by rfl) (by rfl) dX12_asked_234 rfl ?_
                                      refine w_goto (pc' := 100) dX12_asked_237 rfl ?_
                                      refine Wp.lose (ls' := [gR 133, gI p, gI t, gI w, gI (a + 1), gI (i + 1), gX 1]) ⟨.inr rfl, ⟨.inr rfl, ⟨.inr rfl, ⟨.inr rfl, ⟨.inr rfl, ⟨.inr rfl, ⟨.inl rfl, trivial⟩⟩⟩⟩⟩⟩⟩ ?_
                                      exact ih_100 _ (by omega) (i + 1) (a + 1) σ208 rfl (by omega) (by omega) (by rw [es, ← ha]; unfold rcT; (repeat' split) <;> omega) (by first | exact hqv | exact hq_208)
                                    · skip
                                      refine v_iinc (pc' := 234) (x := (a + 1)) (ls' := [gR 133, gI p, gI t, gI w, gI ((a + 1) + 1), gI i, gI (gb (TOLD σ0 i t ≠ -1))]) (by omega) (by decide) (by rfl) (by rfl) dX12_asked_231 rfl ?_
                                      refine v_iinc (pc' := 237) (x := i) (ls' := [gR 133, gI p, gI t, gI w, gI ((a + 1) + 1), gI (i + 1), gI (gb (TOLD σ0 i t ≠ -1))]) (by omega) (by decide) (by rfl) (by rfl) dX12_asked_234 rfl ?_
                                      refine w_goto (pc' := 100) dX12_asked_237 rfl ?_
                                      refine Wp.lose (ls' := [gR 133, gI p, gI t, gI w, gI ((a + 1) + 1), gI (i + 1), gX 1]) ⟨.inr rfl, ⟨.inr rfl, ⟨.inr rfl, ⟨.inr rfl, ⟨.inr rfl, ⟨.inr rfl, ⟨.inl rfl, trivial⟩⟩⟩⟩⟩⟩⟩ ?_
                                      exact ih_100 _ (by omega) (i + 1) ((a + 1) + 1) σ208 rfl (by omega) (by omega) (by rw [es, ← ha]; unfold rcT; (repeat' split) <;> omega) (by first | exact hqv | exact hq_208)
                                  · skip
                                    refine w_iconst (pc' := 224) (by decide) dX12_asked_223 rfl ?_
                                    refine w_goto (pc' := 228) dX12_asked_224 rfl ?_
                                    refine w_icmp_ne (pc' := 231) (t := 234) dX12_asked_228 rfl rfl (fun c_228 => ?_) (fun c_228 => ?_)
                                    · skip
                                      refine v_iinc (pc' := 237) (x := i) (ls' := [gR 133, gI p, gI t, gI w, gI (a + 1), gI (i + 1), gI (gb (TOLD σ0 i t ≠ -1))]) (by omega) (by decide) (by rfl) (by rfl) dX12_asked_234 rfl ?_
                                      refine w_goto (pc' := 100) dX12_asked_237 rfl ?_
                                      refine Wp.lose (ls' := [gR 133, gI p, gI t, gI w, gI (a + 1), gI (i + 1), gX 1]) ⟨.inr rfl, ⟨.inr rfl, ⟨.inr rfl, ⟨.inr rfl, ⟨.inr rfl, ⟨.inr rfl, ⟨.inl rfl, trivial⟩⟩⟩⟩⟩⟩⟩ ?_
                                      exact ih_100 _ (by omega) (i + 1) (a + 1) σ208 rfl (by omega) (by omega) (by rw [es, ← ha]; unfold rcT; (repeat' split) <;> omega) (by first | exact hqv | exact hq_208)
                                    · skip
                                      refine v_iinc (pc' := 234) (x := (a + 1)) (ls' := [gR 133, gI p, gI t, gI w, gI ((a + 1) + 1), gI i, gI (gb (TOLD σ0 i t ≠ -1))]) (by omega) (by decide) (by rfl) (by rfl) dX12_asked_231 rfl ?_
                                      refine v_iinc (pc' := 237) (x := i) (ls' := [gR 133, gI p, gI t, gI w, gI ((a + 1) + 1), gI (i + 1), gI (gb (TOLD σ0 i t ≠ -1))]) (by omega) (by decide) (by rfl) (by rfl) dX12_asked_234 rfl ?_
                                      refine w_goto (pc' := 100) dX12_asked_237 rfl ?_
                                      refine Wp.lose (ls' := [gR 133, gI p, gI t, gI w, gI ((a + 1) + 1), gI (i + 1), gX 1]) ⟨.inr rfl, ⟨.inr rfl, ⟨.inr rfl, ⟨.inr rfl, ⟨.inr rfl, ⟨.inr rfl, ⟨.inl rfl, trivial⟩⟩⟩⟩⟩⟩⟩ ?_
                                      exact ih_100 _ (by omega) (i + 1) ((a + 1) + 1) σ208 rfl (by omega) (by omega) (by rw [es, ← ha]; unfold rcT; (repeat' split) <;> omega) (by first | exact hqv | exact hq_208)
                                · skip
                                  refine w_iload_n (pc' := 197) (i := 3) (by rfl) (by rfl) dX12_asked_196 rfl ?_
                                  refine w_iconst (pc' := 198) (by decide) dX12_asked_197 rfl ?_
                                  refine w_icmp_eq (pc' := 201) (t := 204) dX12_asked_198 rfl rfl (fun c_198 => ?_) (fun c_198 => ?_)
                                  · skip
                                    refine w_aload_n (pc' := 205) (i := 0) (by rfl) (by rfl) dX12_asked_204 rfl ?_
                                    refine w_iload (pc' := 207) (by rfl) dX12_asked_205 rfl ?_
                                    refine w_iload_n (pc' := 208) (i := 2) (by rfl) (by rfl) dX12_asked_207 rfl ?_
                                    refine w_callV (pc' := 211) (d' := 4) (av := [gI i, gI t]) mi_mX12_judge lk_X12_537 rfl ci_X12 kd_133 rfl (Nat.le_of_ble_eq_true rfl) (Nat.le_of_ble_eq_true rfl) dX12_asked_208 rfl (q_judge hI hqv i t ⟨by omega, by omega⟩ rfl) (fun v_208 σ208 q_208 => ?_)
                                    obtain ⟨rfl, hq_208, hr_208, hd_208, _, _, _, _⟩ := q_208
                                    show Wp _ _ _ _ _ _ []
                                    refine w_aload_n (pc' := 212) (i := 0) (by rfl) (by rfl) dX12_asked_211 rfl ?_
                                    refine w_iload (pc' := 214) (by rfl) dX12_asked_212 rfl ?_
                                    refine w_iload_n (pc' := 215) (i := 2) (by rfl) (by rfl) dX12_asked_214 rfl ?_
                                    refine v_callVE (pc' := 218) (st' := [gI (STV σ0 i t)]) (d' := 3) (av := [gI i, gI t]) mi_mX12_stateOf lk_X12_540 rfl ci_X12 kd_133 rfl (Nat.le_of_ble_eq_true rfl) (Nat.le_of_ble_eq_true rfl) dX12_asked_215 rfl rfl (q_stateOf hI hq_208 i t ⟨by omega, by omega⟩ hr_208 hd_208) ?_
                                    refine w_iload_n (pc' := 219) (i := 3) (by rfl) (by rfl) dX12_asked_218 rfl ?_
                                    refine w_iconst (pc' := 220) (by decide) dX12_asked_219 rfl ?_
                                    refine w_icmp_ne (pc' := 223) (t := 227) dX12_asked_220 rfl rfl (fun c_220 => ?_) (fun c_220 => ?_)
                                    · skip
                                      refine w_iconst (pc' := 228) (by decide) dX12_asked_227 rfl ?_
                                      refine w_icmp_ne (pc' := 231) (t := 234) dX12_asked_228 rfl rfl (fun c_228 => ?_) (fun c_228 => ?_)
                                      · skip
                                        refine v_iinc (pc' := 237) (x := i) (ls' := [gR 133, gI p, gI t, gI w, gI (a + 1), gI (i + 1), gI (gb (TOLD σ0 i t ≠ -1))]) (by omega) (by decide) (by rfl) (by rfl) dX12_asked_234 rfl ?_
                                        refine w_goto (pc' := 100) dX12_asked_237 rfl ?_
                                        refine Wp.lose (ls' := [gR 133, gI p, gI t, gI w, gI (a + 1), gI (i + 1), gX 1]) ⟨.inr rfl, ⟨.inr rfl, ⟨.inr rfl, ⟨.inr rfl, ⟨.inr rfl, ⟨.inr rfl, ⟨.inl rfl, trivial⟩⟩⟩⟩⟩⟩⟩ ?_
                                        exact ih_100 _ (by omega) (i + 1) (a + 1) σ208 rfl (by omega) (by omega) (by rw [es, ← ha]; unfold rcT; (repeat' split) <;> omega) (by first | exact hqv | exact hq_208)
                                      · skip
                                        refine v_iinc (pc' := 234) (x := (a + 1)) (ls' := [gR 133, gI p, gI t, gI w, gI ((a + 1) + 1), gI i, gI (gb (TOLD σ0 i t ≠ -1))]) (by omega) (by decide) (by rfl) (by rfl) dX12_asked_231 rfl ?_
                                        refine v_iinc (pc' := 237) (x := i) (ls' := [gR 133, gI p, gI t, gI w, gI ((a + 1) + 1), gI (i + 1), gI (gb (TOLD σ0 i t ≠ -1))]) (by omega) (by decide) (by rfl) (by rfl) dX12_asked_234 rfl ?_
                                        refine w_goto (pc' := 100) dX12_asked_237 rfl ?_
                                        refine Wp.lose (ls' := [gR 133, gI p, gI t, gI w, gI ((a + 1) + 1), gI (i + 1), gX 1]) ⟨.inr rfl, ⟨.inr rfl, ⟨.inr rfl, ⟨.inr rfl, ⟨.inr rfl, ⟨.inr rfl, ⟨.inl rfl, trivial⟩⟩⟩⟩⟩⟩⟩ ?_
                                        exact ih_100 _ (by omega) (i + 1) ((a + 1) + 1) σ208 rfl (by omega) (by omega) (by rw [es, ← ha]; unfold rcT; (repeat' split) <;> omega) (by first | exact hqv | exact hq_208)
                                    · skip
                                      refine w_iconst (pc' := 224) (by decide) dX12_asked_223 rfl ?_
                                      refine w_goto (pc' := 228) dX12_asked_224 rfl ?_
                                      refine w_icmp_ne (pc' := 231) (t := 234) dX12_asked_228 rfl rfl (fun c_228 => ?_) (fun c_228 => ?_)
                                      · skip
                                        refine v_iinc (pc' := 237) (x := i) (ls' := [gR 133, gI p, gI t, gI w, gI (a + 1), gI (i + 1), gI (gb (TOLD σ0 i t ≠ -1))]) (by omega) (by decide) (by rfl) (by rfl) dX12_asked_234 rfl ?_
                                        refine w_goto (pc' := 100) dX12_asked_237 rfl ?_
                                        refine Wp.lose (ls' := [gR 133, gI p, gI t, gI w, gI (a + 1), gI (i + 1), gX 1]) ⟨.inr rfl, ⟨.inr rfl, ⟨.inr rfl, ⟨.inr rfl, ⟨.inr rfl, ⟨.inr rfl, ⟨.inl rfl, trivial⟩⟩⟩⟩⟩⟩⟩ ?_
                                        exact ih_100 _ (by omega) (i + 1) (a + 1) σ208 rfl (by omega) (by omega) (by rw [es, ← ha]; unfold rcT; (repeat' split) <;> omega) (by first | exact hqv | exact hq_208)
                                      · skip
                                        refine v_iinc (pc' := 234) (x := (a + 1)) (ls' := [gR 133, gI p, gI t, gI w, gI ((a + 1) + 1), gI i, gI (gb (TOLD σ0 i t ≠ -1))]) (by omega) (by decide) (by rfl) (by rfl) dX12_asked_231 rfl ?_
                                        refine v_iinc (pc' := 237) (x := i) (ls' := [gR 133, gI p, gI t, gI w, gI ((a + 1) + 1), gI (i + 1), gI (gb (TOLD σ0 i t ≠ -1))]) (by omega) (by decide) (by rfl) (by rfl) dX12_asked_234 rfl ?_
                                        refine w_goto (pc' := 100) dX12_asked_237 rfl ?_
                                        refine Wp.lose (ls' := [gR 133, gI p, gI t, gI w, gI ((a + 1) + 1), gI (i + 1), gX 1]) ⟨.inr rfl, ⟨.inr rfl, ⟨.inr rfl, ⟨.inr rfl, ⟨.inr rfl, ⟨.inr rfl, ⟨.inl rfl, trivial⟩⟩⟩⟩⟩⟩⟩ ?_
                                        exact ih_100 _ (by omega) (i + 1) ((a + 1) + 1) σ208 rfl (by omega) (by omega) (by rw [es, ← ha]; unfold rcT; (repeat' split) <;> omega) (by first | exact hqv | exact hq_208)
                                  · skip
                                    refine w_goto (pc' := 234) dX12_asked_201 rfl ?_
                                    refine v_iinc (pc' := 237) (x := i) (ls' := [gR 133, gI p, gI t, gI w, gI (a + 1), gI (i + 1), gI (gb (TOLD σ0 i t ≠ -1))]) (by omega) (by decide) (by rfl) (by rfl) dX12_asked_234 rfl ?_
                                    refine w_goto (pc' := 100) dX12_asked_237 rfl ?_
                                    refine Wp.lose (ls' := [gR 133, gI p, gI t, gI w, gI (a + 1), gI (i + 1), gX 1]) ⟨.inr rfl, ⟨.inr rfl, ⟨.inr rfl, ⟨.inr rfl, ⟨.inr rfl, ⟨.inr rfl, ⟨.inl rfl, trivial⟩⟩⟩⟩⟩⟩⟩ ?_
                                    exact ih_100 _ (by omega) (i + 1) (a + 1) σv rfl (by omega) (by omega) (by rw [es, ← ha]; unfold rcT; (repeat' split) <;> omega) (by first | exact hqv | exact hq_208)
                              · skip
                                refine w_iload (pc' := 181) (by rfl) dX12_asked_179 rfl ?_
                                refine w_aload_n (pc' := 182) (i := 0) (by rfl) (by rfl) dX12_asked_181 rfl ?_
                                refine w_iload (pc' := 184) (by rfl) dX12_asked_182 rfl ?_
                                refine w_iload_n (pc' := 185) (i := 2) (by rfl) (by rfl) dX12_asked_184 rfl ?_
                                refine v_callVE (pc' := 188) (st' := [gI (LEAST σ0 i t), gI (a + 1)]) (d' := 0) (av := [gI i, gI t]) mi_mX12_leastOf lk_X12_509 rfl ci_X12 kd_133 rfl (Nat.le_of_ble_eq_true rfl) (Nat.le_of_ble_eq_true rfl) dX12_asked_185 rfl rfl (q_leastOf hI hqv i t ⟨by omega, by omega⟩) ?_
                                refine v_iadd (pc' := 189) (by have := hle (by omega); omega) dX12_asked_188 rfl ?_
                                refine w_istore (pc' := 191) (ls' := [gR 133, gI p, gI t, gI w, gI ((a + 1) + (LEAST σ0 i t)), gI i, gI (gb (TOLD σ0 i t ≠ -1))]) (by decide) (by rfl) dX12_asked_189 rfl ?_
                                refine w_iload_n (pc' := 192) (i := 3) (by rfl) (by rfl) dX12_asked_191 rfl ?_
                                refine w_iconst (pc' := 193) (by decide) dX12_asked_192 rfl ?_
                                refine w_icmp_eq (pc' := 196) (t := 204) dX12_asked_193 rfl rfl (fun c_193 => ?_) (fun c_193 => ?_)
                                · skip
                                  refine w_aload_n (pc' := 205) (i := 0) (by rfl) (by rfl) dX12_asked_204 rfl ?_
                                  refine w_iload (pc' := 207) (by rfl) dX12_asked_205 rfl ?_
                                  refine w_iload_n (pc' := 208) (i := 2) (by rfl) (by rfl) dX12_asked_207 rfl ?_
                                  refine w_callV (pc' := 211) (d' := 4) (av := [gI i, gI t]) mi_mX12_judge lk_X12_537 rfl ci_X12 kd_133 rfl (Nat.le_of_ble_eq_true rfl) (Nat.le_of_ble_eq_true rfl) dX12_asked_208 rfl (q_judge hI hqv i t ⟨by omega, by omega⟩ rfl) (fun v_208 σ208 q_208 => ?_)
                                  obtain ⟨rfl, hq_208, hr_208, hd_208, _, _, _, _⟩ := q_208
                                  show Wp _ _ _ _ _ _ []
                                  refine w_aload_n (pc' := 212) (i := 0) (by rfl) (by rfl) dX12_asked_211 rfl ?_
                                  refine w_iload (pc' := 214) (by rfl) dX12_asked_212 rfl ?_
                                  refine w_iload_n (pc' := 215) (i := 2) (by rfl) (by rfl) dX12_asked_214 rfl ?_
                                  refine v_callVE (pc' := 218) (st' := [gI (STV σ0 i t)]) (d' := 3) (av := [gI i, gI t]) mi_mX12_stateOf lk_X12_540 rfl ci_X12 kd_133 rfl (Nat.le_of_ble_eq_true rfl) (Nat.le_of_ble_eq_true rfl) dX12_asked_215 rfl rfl (q_stateOf hI hq_208 i t ⟨by omega, by omega⟩ hr_208 hd_208) ?_
                                  refine w_iload_n (pc' := 219) (i := 3) (by rfl) (by rfl) dX12_asked_218 rfl ?_
                                  refine w_iconst (pc' := 220) (by decide) dX12_asked_219 rfl ?_
                                  refine w_icmp_ne (pc' := 223) (t := 227) dX12_asked_220 rfl rfl (fun c_220 => ?_) (fun c_220 => ?_)
                                  · skip
                                    refine w_iconst (pc' := 228) (by decide) dX12_asked_227 rfl ?_
                                    refine w_icmp_ne (pc' := 231) (t := 234) dX12_asked_228 rfl rfl (fun c_228 => ?_) (fun c_228 => ?_)
                                    · skip
                                      refine v_iinc (pc' := 237) (x := i) (ls' := [gR 133, gI p, gI t, gI w, gI ((a + 1) + (LEAST σ0 i t)), gI (i + 1), gI (gb (TOLD σ0 i t ≠ -1))]) (by omega) (by decide) (by rfl) (by rfl) dX12_asked_234 rfl ?_
                                      refine w_goto (pc' := 100) dX12_asked_237 rfl ?_
                                      refine Wp.lose (ls' := [gR 133, gI p, gI t, gI w, gI ((a + 1) + (LEAST σ0 i t)), gI (i + 1), gX 1]) ⟨.inr rfl, ⟨.inr rfl, ⟨.inr rfl, ⟨.inr rfl, ⟨.inr rfl, ⟨.inr rfl, ⟨.inl rfl, trivial⟩⟩⟩⟩⟩⟩⟩ ?_
                                      exact ih_100 _ (by omega) (i + 1) ((a + 1) + (LEAST σ0 i t)) σ208 rfl (by omega) (by omega) (by rw [es, ← ha]; unfold rcT; (repeat' split) <;> omega) (by first | exact hqv | exact hq_208)
                                    · skip
                                      refine v_iinc (pc' := 234) (x := ((a + 1) + (LEAST σ0 i t))) (ls' := [gR 133, gI p, gI t, gI w, gI (((a + 1) + (LEAST σ0 i t)) + 1), gI i, gI (gb (TOLD σ0 i t ≠ -1))]) (by omega) (by decide) (by rfl) (by rfl) dX12_asked_231 rfl ?_
                                      refine v_iinc (pc' := 237) (x := i) (ls' := [gR 133, gI p, gI t, gI w, gI (((a + 1) + (LEAST σ0 i t)) + 1), gI (i + 1), gI (gb (TOLD σ0 i t ≠ -1))]) (by omega) (by decide) (by rfl) (by rfl) dX12_asked_234 rfl ?_
                                      refine w_goto (pc' := 100) dX12_asked_237 rfl ?_
                                      refine Wp.lose (ls' := [gR 133, gI p, gI t, gI w, gI (((a + 1) + (LEAST σ0 i t)) + 1), gI (i + 1), gX 1]) ⟨.inr rfl, ⟨.inr rfl, ⟨.inr rfl, ⟨.inr rfl, ⟨.inr rfl, ⟨.inr rfl, ⟨.inl rfl, trivial⟩⟩⟩⟩⟩⟩⟩ ?_
                                      exact ih_100 _ (by omega) (i + 1) (((a + 1) + (LEAST σ0 i t)) + 1) σ208 rfl (by omega) (by omega) (by rw [es, ← ha]; unfold rcT; (repeat' split) <;> omega) (by first | exact hqv | exact hq_208)
                                  · skip
                                    refine w_iconst (pc' := 224) (by decide) dX12_asked_223 rfl ?_
                                    refine w_goto (pc' := 228) dX12_asked_224 rfl ?_
                                    refine w_icmp_ne (pc' := 231) (t := 234) dX12_asked_228 rfl rfl (fun c_228 => ?_) (fun c_228 => ?_)
                                    · skip
                                      refine v_iinc (pc' := 237) (x := i) (ls' := [gR 133, gI p, gI t, gI w, gI ((a + 1) + (LEAST σ0 i t)), gI (i + 1), gI (gb (TOLD σ0 i t ≠ -1))]) (by omega) (by decide) (by rfl) (by rfl) dX12_asked_234 rfl ?_
                                      refine w_goto (pc' := 100) dX12_asked_237 rfl ?_
                                      refine Wp.lose (ls' := [gR 133, gI p, gI t, gI w, gI ((a + 1) + (LEAST σ0 i t)), gI (i + 1), gX 1]) ⟨.inr rfl, ⟨.inr rfl, ⟨.inr rfl, ⟨.inr rfl, ⟨.inr rfl, ⟨.inr rfl, ⟨.inl rfl, trivial⟩⟩⟩⟩⟩⟩⟩ ?_
                                      exact ih_100 _ (by omega) (i + 1) ((a + 1) + (LEAST σ0 i t)) σ208 rfl (by omega) (by omega) (by rw [es, ← ha]; unfold rcT; (repeat' split) <;> omega) (by first | exact hqv | exact hq_208)
                                    · skip
                                      refine v_iinc (pc' := 234) (x := ((a + 1) + (LEAST σ0 i t))) (ls' := [gR 133, gI p, gI t, gI w, gI (((a + 1) + (LEAST σ0 i t)) + 1), gI i, gI (gb (TOLD σ0 i t ≠ -1))]) (by omega) (by decide) (by rfl) (by rfl) dX12_asked_231 rfl ?_
                                      refine v_iinc (pc' := 237) (x := i) (ls' := [gR 133, gI p, gI t, gI w, gI (((a + 1) + (LEAST σ0 i t)) + 1), gI (i + 1), gI (gb (TOLD σ0 i t ≠ -1))]) (by omega) (by decide) (by rfl) (by rfl) dX12_asked_234 rfl ?_
                                      refine w_goto (pc' := 100) dX12_asked_237 rfl ?_
                                      refine Wp.lose (ls' := [gR 133, gI p, gI t, gI w, gI (((a + 1) + (LEAST σ0 i t)) + 1), gI (i + 1), gX 1]) ⟨.inr rfl, ⟨.inr rfl, ⟨.inr rfl, ⟨.inr rfl, ⟨.inr rfl, ⟨.inr rfl, ⟨.inl rfl, trivial⟩⟩⟩⟩⟩⟩⟩ ?_
                                      exact ih_100 _ (by omega) (i + 1) (((a + 1) + (LEAST σ0 i t)) + 1) σ208 rfl (by omega) (by omega) (by rw [es, ← ha]; unfold rcT; (repeat' split) <;> omega) (by first | exact hqv | exact hq_208)
                                · skip
                                  refine w_iload_n (pc' := 197) (i := 3) (by rfl) (by rfl) dX12_asked_196 rfl ?_
                                  refine w_iconst (pc' := 198) (by decide) dX12_asked_197 rfl ?_
                                  refine w_icmp_eq (pc' := 201) (t := 204) dX12_asked_198 rfl rfl (fun c_198 => ?_) (fun c_198 => ?_)
                                  · skip
                                    refine w_aload_n (pc' := 205) (i := 0) (by rfl) (by rfl) dX12_asked_204 rfl ?_
                                    refine w_iload (pc' := 207) (by rfl) dX12_asked_205 rfl ?_
                                    refine w_iload_n (pc' := 208) (i := 2) (by rfl) (by rfl) dX12_asked_207 rfl ?_
                                    refine w_callV (pc' := 211) (d' := 4) (av := [gI i, gI t]) mi_mX12_judge lk_X12_537 rfl ci_X12 kd_133 rfl (Nat.le_of_ble_eq_true rfl) (Nat.le_of_ble_eq_true rfl) dX12_asked_208 rfl (q_judge hI hqv i t ⟨by omega, by omega⟩ rfl) (fun v_208 σ208 q_208 => ?_)
                                    obtain ⟨rfl, hq_208, hr_208, hd_208, _, _, _, _⟩ := q_208
                                    show Wp _ _ _ _ _ _ []
                                    refine w_aload_n (pc' := 212) (i := 0) (by rfl) (by rfl) dX12_asked_211 rfl ?_
                                    refine w_iload (pc' := 214) (by rfl) dX12_asked_212 rfl ?_
                                    refine w_iload_n (pc' := 215) (i := 2) (by rfl) (by rfl) dX12_asked_214 rfl ?_
                                    refine v_callVE (pc' := 218) (st' := [gI (STV σ0 i t)]) (d' := 3) (av := [gI i, gI t]) mi_mX12_stateOf lk_X12_540 rfl ci_X12 kd_133 rfl (Nat.le_of_ble_eq_true rfl) (Nat.le_of_ble_eq_true rfl) dX12_asked_215 rfl rfl (q_stateOf hI hq_208 i t ⟨by omega, by omega⟩ hr_208 hd_208) ?_
                                    refine w_iload_n (pc' := 219) (i := 3) (by rfl) (by rfl) dX12_asked_218 rfl ?_
                                    refine w_iconst (pc' := 220) (by decide) dX12_asked_219 rfl ?_
                                    refine w_icmp_ne (pc' := 223) (t := 227) dX12_asked_220 rfl rfl (fun c_220 => ?_) (fun c_220 => ?_)
                                    · skip
                                      refine w_iconst (pc' := 228) (by decide) dX12_asked_227 rfl ?_
                                      refine w_icmp_ne (pc' := 231) (t := 234) dX12_asked_228 rfl rfl (fun c_228 => ?_) (fun c_228 => ?_)
                                      · skip
                                        refine v_iinc (pc' := 237) (x := i) (ls' := [gR 133, gI p, gI t, gI w, gI ((a + 1) + (LEAST σ0 i t)), gI (i + 1), gI (gb (TOLD σ0 i t ≠ -1))]) (by omega) (by decide) (by rfl) (by rfl) dX12_asked_234 rfl ?_
                                        refine w_goto (pc' := 100) dX12_asked_237 rfl ?_
                                        refine Wp.lose (ls' := [gR 133, gI p, gI t, gI w, gI ((a + 1) + (LEAST σ0 i t)), gI (i + 1), gX 1]) ⟨.inr rfl, ⟨.inr rfl, ⟨.inr rfl, ⟨.inr rfl, ⟨.inr rfl, ⟨.inr rfl, ⟨.inl rfl, trivial⟩⟩⟩⟩⟩⟩⟩ ?_
                                        exact ih_100 _ (by omega) (i + 1) ((a + 1) + (LEAST σ0 i t)) σ208 rfl (by omega) (by omega) (by rw [es, ← ha]; unfold rcT; (repeat' split) <;> omega) (by first | exact hqv | exact hq_208)
                                      · skip
                                        refine v_iinc (pc' := 234) (x := ((a + 1) + (LEAST σ0 i t))) (ls' := [gR 133, gI p, gI t, gI w, gI (((a + 1) + (LEAST σ0 i t)) + 1), gI i, gI (gb (TOLD σ0 i t ≠ -1))]) (by omega) (by decide) (by rfl) (by rfl) dX12_asked_231 rfl ?_
                                        refine v_iinc (pc' := 237) (x := i) (ls' := [gR 133, gI p, gI t, gI w, gI (((a + 1) + (LEAST σ0 i t)) + 1), gI (i + 1), gI (gb (TOLD σ0 i t ≠ -1))]) (by omega) (by decide) (by rfl) (by rfl) dX12_asked_234 rfl ?_
                                        refine w_goto (pc' := 100) dX12_asked_237 rfl ?_
                                        refine Wp.lose (ls' := [gR 133, gI p, gI t, gI w, gI (((a + 1) + (LEAST σ0 i t)) + 1), gI (i + 1), gX 1]) ⟨.inr rfl, ⟨.inr rfl, ⟨.inr rfl, ⟨.inr rfl, ⟨.inr rfl, ⟨.inr rfl, ⟨.inl rfl, trivial⟩⟩⟩⟩⟩⟩⟩ ?_
                                        exact ih_100 _ (by omega) (i + 1) (((a + 1) + (LEAST σ0 i t)) + 1) σ208 rfl (by omega) (by omega) (by rw [es, ← ha]; unfold rcT; (repeat' split) <;> omega) (by first | exact hqv | exact hq_208)
                                    · skip
                                      refine w_iconst (pc' := 224) (by decide) dX12_asked_223 rfl ?_
                                      refine w_goto (pc' := 228) dX12_asked_224 rfl ?_
                                      refine w_icmp_ne (pc' := 231) (t := 234) dX12_asked_228 rfl rfl (fun c_228 => ?_) (fun c_228 => ?_)
                                      · skip
                                        refine v_iinc (pc' := 237) (x := i) (ls' := [gR 133, gI p, gI t, gI w, gI ((a + 1) + (LEAST σ0 i t)), gI (i + 1), gI (gb (TOLD σ0 i t ≠ -1))]) (by omega) (by decide) (by rfl) (by rfl) dX12_asked_234 rfl ?_
                                        refine w_goto (pc' := 100) dX12_asked_237 rfl ?_
                                        refine Wp.lose (ls' := [gR 133, gI p, gI t, gI w, gI ((a + 1) + (LEAST σ0 i t)), gI (i + 1), gX 1]) ⟨.inr rfl, ⟨.inr rfl, ⟨.inr rfl, ⟨.inr rfl, ⟨.inr rfl, ⟨.inr rfl, ⟨.inl rfl, trivial⟩⟩⟩⟩⟩⟩⟩ ?_
                                        exact ih_100 _ (by omega) (i + 1) ((a + 1) + (LEAST σ0 i t)) σ208 rfl (by omega) (by omega) (by rw [es, ← ha]; unfold rcT; (repeat' split) <;> omega) (by first | exact hqv | exact hq_208)
                                      · skip
                                        refine v_iinc (pc' := 234) (x := ((a + 1) + (LEAST σ0 i t))) (ls' := [gR 133, gI p, gI t, gI w, gI (((a + 1) + (LEAST σ0 i t)) + 1), gI i, gI (gb (TOLD σ0 i t ≠ -1))]) (by omega) (by decide) (by rfl) (by rfl) dX12_asked_231 rfl ?_
                                        refine v_iinc (pc' := 237) (x := i) (ls' := [gR 133, gI p, gI t, gI w, gI (((a + 1) + (LEAST σ0 i t)) + 1), gI (i + 1), gI (gb (TOLD σ0 i t ≠ -1))]) (by omega) (by decide) (by rfl) (by rfl) dX12_asked_234 rfl ?_
                                        refine w_goto (pc' := 100) dX12_asked_237 rfl ?_
                                        refine Wp.lose (ls' := [gR 133, gI p, gI t, gI w, gI (((a + 1) + (LEAST σ0 i t)) + 1), gI (i + 1), gX 1]) ⟨.inr rfl, ⟨.inr rfl, ⟨.inr rfl, ⟨.inr rfl, ⟨.inr rfl, ⟨.inr rfl, ⟨.inl rfl, trivial⟩⟩⟩⟩⟩⟩⟩ ?_
                                        exact ih_100 _ (by omega) (i + 1) (((a + 1) + (LEAST σ0 i t)) + 1) σ208 rfl (by omega) (by omega) (by rw [es, ← ha]; unfold rcT; (repeat' split) <;> omega) (by first | exact hqv | exact hq_208)
                                  · skip
                                    refine w_goto (pc' := 234) dX12_asked_201 rfl ?_
                                    refine v_iinc (pc' := 237) (x := i) (ls' := [gR 133, gI p, gI t, gI w, gI ((a + 1) + (LEAST σ0 i t)), gI (i + 1), gI (gb (TOLD σ0 i t ≠ -1))]) (by omega) (by decide) (by rfl) (by rfl) dX12_asked_234 rfl ?_
                                    refine w_goto (pc' := 100) dX12_asked_237 rfl ?_
                                    refine Wp.lose (ls' := [gR 133, gI p, gI t, gI w, gI ((a + 1) + (LEAST σ0 i t)), gI (i + 1), gX 1]) ⟨.inr rfl, ⟨.inr rfl, ⟨.inr rfl, ⟨.inr rfl, ⟨.inr rfl, ⟨.inr rfl, ⟨.inl rfl, trivial⟩⟩⟩⟩⟩⟩⟩ ?_
                                    exact ih_100 _ (by omega) (i + 1) ((a + 1) + (LEAST σ0 i t)) σv rfl (by omega) (by omega) (by rw [es, ← ha]; unfold rcT; (repeat' split) <;> omega) (by first | exact hqv | exact hq_208)
                    refine w_aload_n (pc' := 135) (i := 0) (by rfl) (by rfl) dX12_asked_134 rfl ?_
                    refine w_iload (pc' := 137) (by rfl) dX12_asked_135 rfl ?_
                    refine w_iload_n (pc' := 138) (i := 2) (by rfl) (by rfl) dX12_asked_137 rfl ?_
                    refine v_callVE (pc' := 141) (st' := [gI (TOLD σ0 i t)]) (d' := 0) (av := [gI i, gI t]) mi_mX12_toldOf lk_X12_531 rfl ci_X12 kd_133 rfl (Nat.le_of_ble_eq_true rfl) (Nat.le_of_ble_eq_true rfl) dX12_asked_138 rfl rfl (q_toldOf hI hqv i t ⟨by omega, by omega⟩) ?_
                    refine w_iconst (pc' := 142) (by decide) dX12_asked_141 rfl ?_
                    refine w_icmp_eq (pc' := 145) (t := 149) dX12_asked_142 rfl rfl (fun c_142 => ?_) (fun c_142 => ?_)
                    · skip
                      refine w_iconst (pc' := 150) (by decide) dX12_asked_149 rfl ?_
                      exact Wp.stI (by first | (exfalso; omega) | exact (gb_f (P := TOLD σ0 i t ≠ -1) (by omega)).symm) hj_150
                    · skip
                      refine w_iconst (pc' := 146) (by decide) dX12_asked_145 rfl ?_
                      refine w_goto (pc' := 150) dX12_asked_146 rfl ?_
                      exact Wp.stI (by first | (exfalso; omega) | exact (gb_t (P := TOLD σ0 i t ≠ -1) (by omega)).symm) hj_150
                  · skip
                    refine w_goto (pc' := 234) dX12_asked_131 rfl ?_
                    refine v_iinc (pc' := 237) (x := i) (ls' := [gR 133, gI p, gI t, gI w, gI a, gI (i + 1), gX 1]) (by omega) (by decide) (by rfl) (by rfl) dX12_asked_234 rfl ?_
                    refine w_goto (pc' := 100) dX12_asked_237 rfl ?_
                    exact ih_100 _ (by omega) (i + 1) a σv rfl (by omega) (by omega) (by rw [es, ← ha]; unfold rcT; (repeat' split) <;> omega) (by first | exact hqv | exact hq_208)
          exact hl_100 _ 0 0 (gUp σ0 133 0 0) rfl (by omega) (by omega) (by rfl) (by exact QM.up (QM.refl hI) (by decide) (fun h => h))
        · skip
          refine w_aload_n (pc' := 33) (i := 0) (by rfl) (by rfl) dX12_asked_32 rfl ?_
          refine w_iload_n (pc' := 34) (i := 2) (by rfl) (by rfl) dX12_asked_33 rfl ?_
          refine w_iload_n (pc' := 35) (i := 2) (by rfl) (by rfl) dX12_asked_34 rfl ?_
          refine w_callV (pc' := 38) (d' := 2) (av := [gI t, gI t]) mi_mX12_work lk_X12_349 rfl ci_X12 kd_133 rfl (Nat.le_of_ble_eq_true rfl) (Nat.le_of_ble_eq_true rfl) dX12_asked_35 rfl (q_work hI (QM.up (k := 133) (i := 0) (v := 0) (QM.refl hI) (by decide) (fun h => h)) t t) (fun v_35 σ35 q_35 => ?_)
          obtain ⟨rfl, hq_35, hk_35, hw_35⟩ := q_35
          show Wp _ _ _ _ _ _ []
          refine w_iconst (pc' := 39) (by decide) dX12_asked_38 rfl ?_
          refine w_istore (pc' := 41) (ls' := [gR 133, gI p, gI t, gI w, gI 0, gI 0, gX 1]) (by decide) (by rfl) dX12_asked_39 rfl ?_
          have hl_41 : ∀ (mm : Nat) (f a : Int), (σ0 3 2 - f).toNat = mm → (0 ≤ f) → (f ≤ σ0 3 2) → (a = nW (gP σ0 p t) f.toNat) → Wp mX12_asked 30 (fun v σ' => v = gI (if ((0 ≤ p ∧ p < σ0 3 2) ∧ σ0 4 p = 0) ∧ 0 ≤ w ∧ w ≤ 5 then (if w = 5 then cutP (bigW (gP σ0 p t) 60) else RC σ0 p t w (σ0 41 11).toNat) else -1) ∧ QM σ0 σ') σ35 41 [gR 133, gI p, gI t, gI w, gI a, gI f, gX 1] [] := by
            intro m_41
            induction m_41 using Nat.strongRecOn with
            | _ m_41 ih_41 =>
              intro f a hmeas_41 f0 f1 ha
              have es := nW_s (g := gP σ0 p t) f0
              have ni := nW_in (g := gP σ0 p t) (fun i => w64_in _) f.toNat
              have ti := tq_in (v := gP σ0 p t f) (w64_in _)
              have gc := gCmp_pos (x := w64 ((gP σ0 p t f).tdiv 1000000000000)) (y := a)
              rw [ti.1] at gc
              refine w_iload (pc' := 43) (by rfl) dX12_asked_41 rfl ?_
              refine w_aload_n (pc' := 44) (i := 0) (by rfl) (by rfl) dX12_asked_43 rfl ?_
              refine v_getI (pc' := 47) (ji := 6) rfl fg_X12_273 kd_133 dX12_asked_44 rfl ?_
              rw [(hq_35).rd (k := 133) (i := 6) (.inr rfl)]
              rw [hI.f6]
              refine w_icmp_ge (pc' := 50) (t := 94) dX12_asked_47 rfl rfl (fun c_47 => ?_) (fun c_47 => ?_)
              · skip
                refine w_iload (pc' := 96) (by rfl) dX12_asked_94 rfl ?_
                refine v_ireturn rfl dX12_asked_96 ?_
                exact ⟨by rw [if_pos (by omega), if_pos (by omega), nW_cut (g := gP σ0 p t) (fun i => w64_in _), nW_more (n := (σ0 3 2).toNat) (nW_in (g := gP σ0 p t) (fun i => w64_in _) _).1 60 (by omega) (fun i a b => by show w64 (pS _ 4 _ p i) = 0; rw [pS_out (fun g => AR_out hI (by omega))]; rfl), ha, show f = σ0 3 2 by omega], hq_35⟩
              · skip
                refine w_iload (pc' := 52) (by rfl) dX12_asked_50 rfl ?_
                refine w_iload_n (pc' := 53) (i := 1) (by rfl) (by rfl) dX12_asked_52 rfl ?_
                refine w_icmp_eq (pc' := 56) (t := 88) dX12_asked_53 rfl rfl (fun c_53 => ?_) (fun c_53 => ?_)
                · skip
                  refine v_iinc (pc' := 91) (x := f) (ls' := [gR 133, gI p, gI t, gI w, gI a, gI (f + 1), gX 1]) (by omega) (by decide) (by rfl) (by rfl) dX12_asked_88 rfl ?_
                  refine w_goto (pc' := 41) dX12_asked_91 rfl ?_
                  exact ih_41 _ (by omega) (f + 1) a rfl (by omega) (by omega) (by rw [ti.1] at *; rw [es]; first | (rw [if_neg (by omega)]; exact ha) | (rw [if_pos (by omega)]; first | rfl | (rw [ti.1, ti.2.1])) | (rw [show gP σ0 p t f = 0 by (have e : f = p := (by omega)); rw [e]; show w64 (pS _ 4 _ p p) = 0; rw [pS_vis 4 _ p (by simp)]; rfl, if_neg (by show ¬ _ < (0 : Int); omega)]; exact ha))
                · skip
                  refine w_aload_n (pc' := 57) (i := 0) (by rfl) (by rfl) dX12_asked_56 rfl ?_
                  refine w_iload_n (pc' := 58) (i := 1) (by rfl) (by rfl) dX12_asked_57 rfl ?_
                  refine w_iload (pc' := 60) (by rfl) dX12_asked_58 rfl ?_
                  refine v_callVE (pc' := 63) (st' := [gJ (gP σ0 p t f)]) (d' := 1) (av := [gI p, gI f]) mi_mX12_partOf lk_X12_353 rfl ci_X12 kd_133 rfl (Nat.le_of_ble_eq_true rfl) (Nat.le_of_ble_eq_true rfl) dX12_asked_60 rfl rfl (q_partOf (A := AR σ0 t t) (n := σ0 3 2) (fun x f a b c e => (hw_35.1 x f a b c e).1) (fun c f => AR_in hI t t c f) ((hq_35.rd (.inr rfl)).trans hI.f6) (by omega) (by omega) (fun g f h => AR_out hI (by omega)) (fun y => AR_out hI (by omega)) p f ⟨by omega, by omega⟩ ⟨by omega, by omega⟩) ?_
                  refine w_ldc2 (pc' := 66) (by decide) ct_X12_338 dX12_asked_63 rfl ?_
                  refine w_ldiv (pc' := 67) (by omega) dX12_asked_66 rfl ?_
                  refine w_iload (pc' := 69) (by rfl) dX12_asked_67 rfl ?_
                  refine w_i2l (pc' := 70) dX12_asked_69 rfl ?_
                  refine w_lcmp (pc' := 71) dX12_asked_70 rfl ?_
                  refine w_if_le (pc' := 74) (t := 88) dX12_asked_71 rfl rfl (fun c_71 => ?_) (fun c_71 => ?_)
                  · skip
                    refine v_iinc (pc' := 91) (x := f) (ls' := [gR 133, gI p, gI t, gI w, gI a, gI (f + 1), gX 1]) (by omega) (by decide) (by rfl) (by rfl) dX12_asked_88 rfl ?_
                    refine w_goto (pc' := 41) dX12_asked_91 rfl ?_
                    exact ih_41 _ (by omega) (f + 1) a rfl (by omega) (by omega) (by rw [ti.1] at *; rw [es]; first | (rw [if_neg (by omega)]; exact ha) | (rw [if_pos (by omega)]; first | rfl | (rw [ti.1, ti.2.1])) | (rw [show gP σ0 p t f = 0 by (have e : f = p := (by omega)); rw [e]; show w64 (pS _ 4 _ p p) = 0; rw [pS_vis 4 _ p (by simp)]; rfl, if_neg (by show ¬ _ < (0 : Int); omega)]; exact ha))
                  · skip
                    refine w_aload_n (pc' := 75) (i := 0) (by rfl) (by rfl) dX12_asked_74 rfl ?_
                    refine w_iload_n (pc' := 76) (i := 1) (by rfl) (by rfl) dX12_asked_75 rfl ?_
                    refine w_iload (pc' := 78) (by rfl) dX12_asked_76 rfl ?_
                    refine v_callVE (pc' := 81) (st' := [gJ (gP σ0 p t f)]) (d' := 1) (av := [gI p, gI f]) mi_mX12_partOf lk_X12_353 rfl ci_X12 kd_133 rfl (Nat.le_of_ble_eq_true rfl) (Nat.le_of_ble_eq_true rfl) dX12_asked_78 rfl rfl (q_partOf (A := AR σ0 t t) (n := σ0 3 2) (fun x f a b c e => (hw_35.1 x f a b c e).1) (fun c f => AR_in hI t t c f) ((hq_35.rd (.inr rfl)).trans hI.f6) (by omega) (by omega) (fun g f h => AR_out hI (by omega)) (fun y => AR_out hI (by omega)) p f ⟨by omega, by omega⟩ ⟨by omega, by omega⟩) ?_
                    refine w_ldc2 (pc' := 84) (by decide) ct_X12_338 dX12_asked_81 rfl ?_
                    refine w_ldiv (pc' := 85) (by omega) dX12_asked_84 rfl ?_
                    refine w_l2i (pc' := 86) dX12_asked_85 rfl ?_
                    refine w_istore (pc' := 88) (ls' := [gR 133, gI p, gI t, gI w, gI (w32 (w64 ((gP σ0 p t f).tdiv 1000000000000))), gI f, gX 1]) (by decide) (by rfl) dX12_asked_86 rfl ?_
                    refine v_iinc (pc' := 91) (x := f) (ls' := [gR 133, gI p, gI t, gI w, gI (w32 (w64 ((gP σ0 p t f).tdiv 1000000000000))), gI (f + 1), gX 1]) (by omega) (by decide) (by rfl) (by rfl) dX12_asked_88 rfl ?_
                    refine w_goto (pc' := 41) dX12_asked_91 rfl ?_
                    exact ih_41 _ (by omega) (f + 1) (w32 (w64 ((gP σ0 p t f).tdiv 1000000000000))) rfl (by omega) (by omega) (by rw [ti.1] at *; rw [es]; first | (rw [if_neg (by omega)]; exact ha) | (rw [if_pos (by omega)]; first | rfl | (rw [ti.1, ti.2.1])) | (rw [show gP σ0 p t f = 0 by (have e : f = p := (by omega)); rw [e]; show w64 (pS _ 4 _ p p) = 0; rw [pS_vis 4 _ p (by simp)]; rfl, if_neg (by show ¬ _ < (0 : Int); omega)]; exact ha))
          exact hl_41 _ 0 0 rfl (by omega) (by omega) (by rfl)
      · skip
        refine w_iconst (pc' := 23) (by decide) dX12_asked_22 rfl ?_
        refine v_ireturn rfl dX12_asked_23 ?_
        exact ⟨by rw [if_neg (by omega)], QM.up (QM.refl hI) (by decide) (fun h => h)⟩
theorem ci_asked (p t w : Int) : CI Inv mX11_asked mX12_asked [gI p, gI t, gI w] := CI_query (fun σ0 => if ((0 ≤ p ∧ p < σ0 3 2) ∧ σ0 4 p = 0) ∧ 0 ≤ w ∧ w ≤ 5 then (if w = 5 then cutP (bigW (gP σ0 p t) 60) else RC σ0 p t w (σ0 41 11).toNat) else -1) (fun σ0 hI => x_asked hI p t w) (fun σ0 hI => m_asked hI p t w) (fun _ => rfl)
