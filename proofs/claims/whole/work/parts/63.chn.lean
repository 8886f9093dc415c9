/-! parts by way of others: the class (gen/mod_chn.py) -/
theorem w64_add (a b : Int) : w64 (w64 a + b) = w64 (a + b) := by
  unfold w64
  simp only [Int.bmod]
  omega
theorem updE {f : Int → Int} {i v j : Int} (h : j = i) : updI f i v j = v := by rw [h, updI_eq]
theorem w64_w64 (a : Int) : w64 (w64 a) = w64 a := w64_id (w64_in a)
/-- the sum of all ways from y to f of at most k steps, none through those of vis, in 10000 ^ (k - 1)th parts -/
def pS (A : Int → Int → Int) : Nat → (Int → Bool) → Int → Int → Int
  | 0, _, _, _ => 0
  | k + 1, vis, y, f => sumI (fun z => A y z * (if vis z = true then 0 else (if z = f then (10000 : Int) ^ k else 0) + pS A k (fun u => vis u || decide (u = z)) z f)) 60
abbrev hW (A : Int → Int → Int) (k : Nat) (vis : Int → Bool) (z f : Int) : Int := if vis z = true then 0 else (if z = f then (10000 : Int) ^ k else 0) + pS A k (fun u => vis u || decide (u = z)) z f
/-- the arrows of y are all that it has parts in -/
theorem arr_sum {S T P : Int → Int} {A : Int → Int → Int} (hA : ARW S T P A) {y : Int} (h0 : 0 ≤ y) (h1 : y < 60) (g : Int → Int) : sumI (fun j => P (S y + j) * g (T (S y + j))) (S (y + 1) - S y).toNat = sumI (fun z => A y z * g z) 60 := by
  have mon := hA.2.1 y h0 h1
  have e : sumI (fun j => P (S y + j) * g (T (S y + j))) (S (y + 1) - S y).toNat = sumI (fun j => sumI (fun z => if T (S y + j) = z then P (S y + j) * g z else 0) 60) (S (y + 1) - S y).toNat := sumI_congr fun j a b => by
    have r := hA.2.2.1 y h0 h1 (S y + j) (by omega) (by omega)
    rw [sumI_one (f := fun z => if T (S y + j) = z then P (S y + j) * g z else 0) r.1 r.2.1 (fun i _ _ c => if_neg (Ne.symm c)), if_pos rfl]
  rw [e, sumI_swap]
  refine sumI_congr fun z a b => ?_
  by_cases c : A y z = 0
  · rw [c, Int.zero_mul]
    refine (sumI_congr (g := fun _ => 0) fun j x w => if_neg (fun t => ?_)).trans (sumI_zero _)
    have r := hA.2.2.1 y h0 h1 (S y + j) (by omega) (by omega)
    rw [t, c] at r
    omega
  · obtain ⟨k, k0, k1, k2⟩ := hA.2.2.2 y z h0 h1 a b c
    have r := hA.2.2.1 y h0 h1 k k0 k1
    rw [sumI_one (k := k - S y) (by omega) (by omega) (fun i x w n => if_neg (fun t => ?_))]
    · rw [show S y + (k - S y) = k by omega, if_pos k2, r.2.2.1, k2]
    · have q := hA.2.2.1 y h0 h1
      by_cases l : S y + i < k
      · have := (q k k0 k1).2.2.2.2 (S y + i) (by omega) l
        omega
      · have := (q (S y + i) (by omega) (by omega)).2.2.2.2 k k0 (by omega)
        omega
theorem mulb {a b M : Int} (h0 : 0 ≤ a) (h1 : a ≤ M) (h2 : 0 ≤ b) (h3 : b ≤ 10000) : 0 ≤ a * b ∧ a * b ≤ M * 10000 := by
  constructor
  · exact Int.mul_nonneg h0 h2
  · have x : a * b ≤ M * b := Int.mul_le_mul_of_nonneg_right h1 h2
    have y : M * b ≤ M * 10000 := Int.mul_le_mul_of_nonneg_left h3 (by omega)
    omega
theorem divx {a c : Int} (ha : 0 ≤ a) (hc : 0 ≤ c) (hb : a * c ≤ 900000000000000) : w64 ((a * (c * 10000)).tdiv 10000) = a * c := by
  have h := Int.mul_nonneg ha hc
  have e : a * (c * 10000) = a * c * 10000 := (Int.mul_assoc a c 10000).symm
  rw [e, Int.mul_tdiv_cancel _ (by decide)]
  exact w64_id ⟨by omega, by omega⟩
theorem Wp.stJ {M : gM} {d : Nat} {Q : gV → gH → Prop} {σ : gH} {pc : Nat} {ls st : List gV} {x y : Int} (e : x = y) (k : Wp M d Q σ pc ls (gJ y :: st)) : Wp M d Q σ pc ls (gJ x :: st) := by rw [e]; exact k
theorem stepT {A : Int → Int → Int} {k : Nat} {vis : Int → Bool} {T1 : Int → Int} {s t0 tz P q zz f s0 c : Int} (hv0 : ¬ vis zz = true) (hc : c = (10000 : Int) ^ k) (h1 : T1 f = w64 (t0 + P * s)) (hz : T1 zz = w64 (tz + P * s0)) : w64 (updI T1 zz (w64 (T1 zz + P * q * c)) f + P * q * pS A k (fun u => vis u || decide (u = zz)) zz f) = w64 (t0 + P * (s + q * hW A k vis zz f)) := by
  have e : hW A k vis zz f = (if zz = f then (10000 : Int) ^ k else 0) + pS A k (fun u => vis u || decide (u = zz)) zz f := if_neg hv0
  rw [e]
  generalize pS A k (fun u => vis u || decide (u = zz)) zz f = r
  by_cases c1 : f = zz
  · subst c1
    rw [updI_eq, if_pos rfl, w64_add, h1, ← hc, Int.add_assoc, w64_add]
    congr 1
    rw [Int.mul_add, Int.mul_add, Int.mul_add, ← Int.mul_assoc, ← Int.mul_assoc]
    omega
  · rw [updI_ne c1, if_neg (fun x => c1 x.symm), h1, w64_add, Int.zero_add, Int.mul_add, ← Int.mul_assoc]
    congr 1
    omega
theorem k_firstArrow (σ : gH) (x : Int) (h : 0 ≤ x ∧ x < 60) : Mt mX7_firstArrow 0 [gR 14, gI x] σ (rE (gI (σ 23 x)) σ) := by
  refine Mt.walk (ls := [gR 14, gI x]) pn_X7 rfl (fun _ _ h => by cases h.1) (Nat.le_of_ble_eq_true rfl) rfl ?_
  refine w_iload_n (pc' := 1) (i := 1) (by rfl) (by rfl) dX7_firstArrow_0 rfl ?_
  refine w_if_lt (pc' := 4) (t := 19) dX7_firstArrow_1 rfl rfl (fun c_1 => ?_) (fun c_1 => ?_)
  · skip
    refine w_iconst (pc' := 20) (by decide) dX7_firstArrow_19 rfl ?_
    refine v_ireturn rfl dX7_firstArrow_20 ?_
    first | (exfalso; omega) | exact ⟨rfl, rfl⟩
  · skip
    refine w_iload_n (pc' := 5) (i := 1) (by rfl) (by rfl) dX7_firstArrow_4 rfl ?_
    refine w_bipush (pc' := 7) (by decide) (by decide) dX7_firstArrow_5 rfl ?_
    refine w_icmp_ge (pc' := 10) (t := 19) dX7_firstArrow_7 rfl rfl (fun c_7 => ?_) (fun c_7 => ?_)
    · skip
      refine w_iconst (pc' := 20) (by decide) dX7_firstArrow_19 rfl ?_
      refine v_ireturn rfl dX7_firstArrow_20 ?_
      first | (exfalso; omega) | exact ⟨rfl, rfl⟩
    · skip
      refine w_aload_n (pc' := 11) (i := 0) (by rfl) (by rfl) dX7_firstArrow_10 rfl ?_
      refine w_getS (pc' := 14) (q := 23) fg_X7_24 kd_14 sf_X7_2 gr_14_2 dX7_firstArrow_11 rfl ?_
      refine w_iload_n (pc' := 15) (i := 1) (by rfl) (by rfl) dX7_firstArrow_14 rfl ?_
      refine w_iald (pc' := 16) kd_23 (by omega) (by omega) dX7_firstArrow_15 rfl ?_
      refine w_goto (pc' := 20) dX7_firstArrow_16 rfl ?_
      refine v_ireturn rfl dX7_firstArrow_20 ?_
      first | (exfalso; omega) | exact ⟨rfl, rfl⟩
theorem k_pastArrows (σ : gH) (x : Int) (h : 0 ≤ x ∧ x < 60) : Mt mX7_pastArrows 0 [gR 14, gI x] σ (rE (gI (σ 23 (x + 1))) σ) := by
  refine Mt.walk (ls := [gR 14, gI x]) pn_X7 rfl (fun _ _ h => by cases h.1) (Nat.le_of_ble_eq_true rfl) rfl ?_
  refine w_iload_n (pc' := 1) (i := 1) (by rfl) (by rfl) dX7_pastArrows_0 rfl ?_
  refine w_if_lt (pc' := 4) (t := 21) dX7_pastArrows_1 rfl rfl (fun c_1 => ?_) (fun c_1 => ?_)
  · skip
    refine w_iconst (pc' := 22) (by decide) dX7_pastArrows_21 rfl ?_
    refine v_ireturn rfl dX7_pastArrows_22 ?_
    first | (exfalso; omega) | exact ⟨rfl, rfl⟩
  · skip
    refine w_iload_n (pc' := 5) (i := 1) (by rfl) (by rfl) dX7_pastArrows_4 rfl ?_
    refine w_bipush (pc' := 7) (by decide) (by decide) dX7_pastArrows_5 rfl ?_
    refine w_icmp_ge (pc' := 10) (t := 21) dX7_pastArrows_7 rfl rfl (fun c_7 => ?_) (fun c_7 => ?_)
    · skip
      refine w_iconst (pc' := 22) (by decide) dX7_pastArrows_21 rfl ?_
      refine v_ireturn rfl dX7_pastArrows_22 ?_
      first | (exfalso; omega) | exact ⟨rfl, rfl⟩
    · skip
      refine w_aload_n (pc' := 11) (i := 0) (by rfl) (by rfl) dX7_pastArrows_10 rfl ?_
      refine w_getS (pc' := 14) (q := 23) fg_X7_24 kd_14 sf_X7_2 gr_14_2 dX7_pastArrows_11 rfl ?_
      refine w_iload_n (pc' := 15) (i := 1) (by rfl) (by rfl) dX7_pastArrows_14 rfl ?_
      refine w_iconst (pc' := 16) (by decide) dX7_pastArrows_15 rfl ?_
      refine v_iadd (pc' := 17) (by omega) dX7_pastArrows_16 rfl ?_
      refine w_iald (pc' := 18) kd_23 (by omega) (by omega) dX7_pastArrows_17 rfl ?_
      refine w_goto (pc' := 22) dX7_pastArrows_18 rfl ?_
      refine v_ireturn rfl dX7_pastArrows_22 ?_
      first | (exfalso; omega) | exact ⟨rfl, rfl⟩
theorem k_targetOf (σ : gH) (x : Int) (h : 0 ≤ x ∧ x < 200) : Mt mX7_targetOf 0 [gR 14, gI x] σ (rE (gI (σ 24 x)) σ) := by
  refine Mt.walk (ls := [gR 14, gI x]) pn_X7 rfl (fun _ _ h => by cases h.1) (Nat.le_of_ble_eq_true rfl) rfl ?_
  refine w_iload_n (pc' := 1) (i := 1) (by rfl) (by rfl) dX7_targetOf_0 rfl ?_
  refine w_if_lt (pc' := 4) (t := 20) dX7_targetOf_1 rfl rfl (fun c_1 => ?_) (fun c_1 => ?_)
  · skip
    refine w_iconst (pc' := 21) (by decide) dX7_targetOf_20 rfl ?_
    refine v_ireturn rfl dX7_targetOf_21 ?_
    first | (exfalso; omega) | exact ⟨rfl, rfl⟩
  · skip
    refine w_iload_n (pc' := 5) (i := 1) (by rfl) (by rfl) dX7_targetOf_4 rfl ?_
    refine w_sipush (pc' := 8) (by decide) (by decide) dX7_targetOf_5 rfl ?_
    refine w_icmp_ge (pc' := 11) (t := 20) dX7_targetOf_8 rfl rfl (fun c_8 => ?_) (fun c_8 => ?_)
    · skip
      refine w_iconst (pc' := 21) (by decide) dX7_targetOf_20 rfl ?_
      refine v_ireturn rfl dX7_targetOf_21 ?_
      first | (exfalso; omega) | exact ⟨rfl, rfl⟩
    · skip
      refine w_aload_n (pc' := 12) (i := 0) (by rfl) (by rfl) dX7_targetOf_11 rfl ?_
      refine w_getS (pc' := 15) (q := 24) fg_X7_27 kd_14 sf_X7_3 gr_14_3 dX7_targetOf_12 rfl ?_
      refine w_iload_n (pc' := 16) (i := 1) (by rfl) (by rfl) dX7_targetOf_15 rfl ?_
      refine w_iald (pc' := 17) kd_24 (by omega) (by omega) dX7_targetOf_16 rfl ?_
      refine w_goto (pc' := 21) dX7_targetOf_17 rfl ?_
      refine v_ireturn rfl dX7_targetOf_21 ?_
      first | (exfalso; omega) | exact ⟨rfl, rfl⟩
theorem k_partOn (σ : gH) (x : Int) (h : 0 ≤ x ∧ x < 200) : Mt mX7_partOn 0 [gR 14, gI x] σ (rE (gI (σ 25 x)) σ) := by
  refine Mt.walk (ls := [gR 14, gI x]) pn_X7 rfl (fun _ _ h => by cases h.1) (Nat.le_of_ble_eq_true rfl) rfl ?_
  refine w_iload_n (pc' := 1) (i := 1) (by rfl) (by rfl) dX7_partOn_0 rfl ?_
  refine w_if_lt (pc' := 4) (t := 20) dX7_partOn_1 rfl rfl (fun c_1 => ?_) (fun c_1 => ?_)
  · skip
    refine w_iconst (pc' := 21) (by decide) dX7_partOn_20 rfl ?_
    refine v_ireturn rfl dX7_partOn_21 ?_
    first | (exfalso; omega) | exact ⟨rfl, rfl⟩
  · skip
    refine w_iload_n (pc' := 5) (i := 1) (by rfl) (by rfl) dX7_partOn_4 rfl ?_
    refine w_sipush (pc' := 8) (by decide) (by decide) dX7_partOn_5 rfl ?_
    refine w_icmp_ge (pc' := 11) (t := 20) dX7_partOn_8 rfl rfl (fun c_8 => ?_) (fun c_8 => ?_)
    · skip
      refine w_iconst (pc' := 21) (by decide) dX7_partOn_20 rfl ?_
      refine v_ireturn rfl dX7_partOn_21 ?_
      first | (exfalso; omega) | exact ⟨rfl, rfl⟩
    · skip
      refine w_aload_n (pc' := 12) (i := 0) (by rfl) (by rfl) dX7_partOn_11 rfl ?_
      refine w_getS (pc' := 15) (q := 25) fg_X7_30 kd_14 sf_X7_4 gr_14_4 dX7_partOn_12 rfl ?_
      refine w_iload_n (pc' := 16) (i := 1) (by rfl) (by rfl) dX7_partOn_15 rfl ?_
      refine w_iald (pc' := 17) kd_25 (by omega) (by omega) dX7_partOn_16 rfl ?_
      refine w_goto (pc' := 21) dX7_partOn_17 rfl ?_
      refine v_ireturn rfl dX7_partOn_21 ?_
      first | (exfalso; omega) | exact ⟨rfl, rfl⟩
theorem k_step0 {σ : gH} {A : Int → Int → Int} (hA : ARW (σ 23) (σ 24) (σ 25) A) (hp : ∀ c f, 0 ≤ A c f ∧ A c f ≤ 10000) (hgl : σ 30 6 = -1) (TT PP : Int → Int) (z P : Int) (vis : Int → Bool) (hP : 0 ≤ P ∧ P ≤ 10000000000000000) (hy : 0 ≤ PP 4 ∧ PP 4 < 60) (hT : ∀ f, 0 ≤ f → f < 60 → gi64 (TT f)) (hv : ∀ u, 0 ≤ u → u < 60 → (bitI z u ↔ vis u = true)) : Mt mX0_stepOn 1 [gR 30, gI 4, gJ (P * 1)] (gUp (gUr (gUr σ 31 TT) 32 PP) 30 7 z) (fun v σ' => v = gX 1 ∧ ∃ T_ P_ z_, σ' = gUp (gUr (gUr σ 31 T_) 32 P_) 30 7 z_ ∧ (∀ f, 0 ≤ f → f < 60 → T_ f = w64 (TT f + P * pS A 0 vis (PP 4) f)) ∧ (∀ i, 0 ≤ i → i ≤ 4 → P_ i = PP i) ∧ ∀ u, 0 ≤ u → u < 60 → (bitI z_ u ↔ vis u = true)) := by
  refine Mt.walk (ls := [gR 30, gI 4, gJ (P * 1), gX 1, gX 1, gX 1, gX 1, gX 1, gX 1, gX 1]) pn_X0 rfl (fun _ _ h => by cases h.1) (Nat.le_of_ble_eq_true rfl) rfl ?_
  refine w_iload_n (pc' := 1) (i := 1) (by rfl) (by rfl) dX0_stepOn_0 rfl ?_
  refine w_if_lt (pc' := 4) (t := 9) dX0_stepOn_1 rfl rfl (fun c_1 => ?_) (fun c_1 => ?_)
  · skip
    exact absurd c_1 (by decide)
  · skip
    refine w_iload_n (pc' := 5) (i := 1) (by rfl) (by rfl) dX0_stepOn_4 rfl ?_
    refine w_iconst (pc' := 6) (by decide) dX0_stepOn_5 rfl ?_
    refine w_icmp_lt (pc' := 9) (t := 10) dX0_stepOn_6 rfl rfl (fun c_6 => ?_) (fun c_6 => ?_)
    · skip
      exact absurd c_6 (by decide)
    · skip
      refine w_return rfl dX0_stepOn_9 ?_
      exact ⟨rfl, TT, PP, z, rfl, fun f a b => by rw [show pS A 0 vis (PP 4) f = 0 from rfl, Int.mul_zero, Int.add_zero]; exact (w64_id (hT f a b)).symm, fun i _ _ => rfl, hv⟩
set_option maxHeartbeats 4000000 in
theorem k_step1 {σ : gH} {A : Int → Int → Int} (hA : ARW (σ 23) (σ 24) (σ 25) A) (hp : ∀ c f, 0 ≤ A c f ∧ A c f ≤ 10000) (hgl : σ 30 6 = -1) (TT PP : Int → Int) (z P : Int) (vis : Int → Bool) (hP : 0 ≤ P ∧ P ≤ 1000000000000) (hy : 0 ≤ PP 3 ∧ PP 3 < 60) (hT : ∀ f, 0 ≤ f → f < 60 → gi64 (TT f)) (hv : ∀ u, 0 ≤ u → u < 60 → (bitI z u ↔ vis u = true)) : Mt mX0_stepOn 2 [gR 30, gI 3, gJ (P * 10000)] (gUp (gUr (gUr σ 31 TT) 32 PP) 30 7 z) (fun v σ' => v = gX 1 ∧ ∃ T_ P_ z_, σ' = gUp (gUr (gUr σ 31 T_) 32 P_) 30 7 z_ ∧ (∀ f, 0 ≤ f → f < 60 → T_ f = w64 (TT f + P * pS A 1 vis (PP 3) f)) ∧ (∀ i, 0 ≤ i → i ≤ 3 → P_ i = PP i) ∧ ∀ u, 0 ≤ u → u < 60 → (bitI z_ u ↔ vis u = true)) := by
  refine Mt.walk (ls := [gR 30, gI 3, gJ (P * 10000), gX 1, gX 1, gX 1, gX 1, gX 1, gX 1, gX 1]) pn_X0 rfl (fun _ _ h => by cases h.1) (Nat.le_of_ble_eq_true rfl) rfl ?_
  refine w_iload_n (pc' := 1) (i := 1) (by rfl) (by rfl) dX0_stepOn_0 rfl ?_
  refine w_if_lt (pc' := 4) (t := 9) dX0_stepOn_1 rfl rfl (fun c_1 => ?_) (fun c_1 => ?_)
  · skip
    exact absurd c_1 (by decide)
  · skip
    refine w_iload_n (pc' := 5) (i := 1) (by rfl) (by rfl) dX0_stepOn_4 rfl ?_
    refine w_iconst (pc' := 6) (by decide) dX0_stepOn_5 rfl ?_
    refine w_icmp_lt (pc' := 9) (t := 10) dX0_stepOn_6 rfl rfl (fun c_6 => ?_) (fun c_6 => ?_)
    · skip
      refine w_aload_n (pc' := 11) (i := 0) (by rfl) (by rfl) dX0_stepOn_10 rfl ?_
      refine w_getS (pc' := 14) (q := 32) fg_X0_15 kd_30 sf_X0_2 gr_30_2 dX0_stepOn_11 rfl ?_
      refine w_iload_n (pc' := 15) (i := 1) (by rfl) (by rfl) dX0_stepOn_14 rfl ?_
      refine w_iald (pc' := 16) kd_32 (by omega) (by omega) dX0_stepOn_15 rfl ?_
      show Wp _ _ _ _ _ _ [gI (PP 3)]
      refine w_istore (pc' := 18) (ls' := [gR 30, gI 3, gJ (P * 10000), gX 1, gI (PP 3), gX 1, gX 1, gX 1, gX 1, gX 1]) (by decide) (by rfl) dX0_stepOn_16 rfl ?_
      refine w_aload_n (pc' := 19) (i := 0) (by rfl) (by rfl) dX0_stepOn_18 rfl ?_
      refine w_getS (pc' := 22) (q := 14) fg_X0_22 kd_30 sf_X0_0 gr_30_0 dX0_stepOn_19 rfl ?_
      refine w_iload (pc' := 24) (by rfl) dX0_stepOn_22 rfl ?_
      refine v_callVE (pc' := 27) (st' := [gI (σ 23 ((PP 3) + 1))]) (d' := 0) (av := [gI (PP 3)]) mi_mX7_pastArrows lk_X0_70 rfl ci_X7 kd_14 rfl (Nat.le_of_ble_eq_true rfl) (Nat.le_of_ble_eq_true rfl) dX0_stepOn_24 rfl rfl (k_pastArrows (gUp (gUr (gUr σ 31 TT) 32 PP) 30 7 z) (PP 3) (by omega)) ?_
      refine w_istore (pc' := 29) (ls' := [gR 30, gI 3, gJ (P * 10000), gX 1, gI (PP 3), gI (σ 23 ((PP 3) + 1)), gX 1, gX 1, gX 1, gX 1]) (by decide) (by rfl) dX0_stepOn_27 rfl ?_
      refine w_aload_n (pc' := 30) (i := 0) (by rfl) (by rfl) dX0_stepOn_29 rfl ?_
      refine w_getS (pc' := 33) (q := 14) fg_X0_22 kd_30 sf_X0_0 gr_30_0 dX0_stepOn_30 rfl ?_
      refine w_iload (pc' := 35) (by rfl) dX0_stepOn_33 rfl ?_
      refine v_callVE (pc' := 38) (st' := [gI (σ 23 (PP 3))]) (d' := 0) (av := [gI (PP 3)]) mi_mX7_firstArrow lk_X0_74 rfl ci_X7 kd_14 rfl (Nat.le_of_ble_eq_true rfl) (Nat.le_of_ble_eq_true rfl) dX0_stepOn_35 rfl rfl (k_firstArrow (gUp (gUr (gUr σ 31 TT) 32 PP) 30 7 z) (PP 3) (by omega)) ?_
      refine w_istore (pc' := 40) (ls' := [gR 30, gI 3, gJ (P * 10000), gX 1, gI (PP 3), gI (σ 23 ((PP 3) + 1)), gI (σ 23 (PP 3)), gX 1, gX 1, gX 1]) (by decide) (by rfl) dX0_stepOn_38 rfl ?_
      have hS := hA.2.1 (PP 3) hy.1 hy.2
      have hl_40 : ∀ (mm : Nat) (a : Int) (T1 P1 : Int → Int) (z1 : Int), (σ 23 ((PP 3) + 1) - a).toNat = mm → (σ 23 (PP 3) ≤ a) → (a ≤ σ 23 ((PP 3) + 1)) → (∀ f, 0 ≤ f → f < 60 → T1 f = w64 (TT f + P * sumI (fun j => σ 25 (σ 23 (PP 3) + j) * hW A 0 vis (σ 24 (σ 23 (PP 3) + j)) f) (a - σ 23 (PP 3)).toNat)) → (∀ i, 0 ≤ i → i ≤ 3 → P1 i = PP i) → (∀ u, 0 ≤ u → u < 60 → (bitI z1 u ↔ vis u = true)) → Wp mX0_stepOn 2 (fun v σ' => v = gX 1 ∧ ∃ T_ P_ z_, σ' = gUp (gUr (gUr σ 31 T_) 32 P_) 30 7 z_ ∧ (∀ f, 0 ≤ f → f < 60 → T_ f = w64 (TT f + P * pS A 1 vis (PP 3) f)) ∧ (∀ i, 0 ≤ i → i ≤ 3 → P_ i = PP i) ∧ ∀ u, 0 ≤ u → u < 60 → (bitI z_ u ↔ vis u = true)) (gUp (gUr (gUr σ 31 T1) 32 P1) 30 7 z1) 40 [gR 30, gI 3, gJ (P * 10000), gX 1, gI (PP 3), gI (σ 23 ((PP 3) + 1)), gI a, gX 1, gX 1, gX 1] [] := by
        intro m_40
        induction m_40 using Nat.strongRecOn with
        | _ m_40 ih_40 =>
          intro a T1 P1 z1 hmeas_40 h0 h1 ht hpp hz
          have hS := hA.2.1 (PP 3) hy.1 hy.2
          have har := fun h : a < σ 23 ((PP 3) + 1) => hA.2.2.1 (PP 3) hy.1 hy.2 a h0 h
          have hpa := hp (PP 3) (σ 24 a)
          have hpe : a < σ 23 ((PP 3) + 1) → σ 25 a = A (PP 3) (σ 24 a) := fun h => (har h).2.2.1
          refine w_iload (pc' := 42) (by rfl) dX0_stepOn_40 rfl ?_
          refine w_iload (pc' := 44) (by rfl) dX0_stepOn_42 rfl ?_
          refine w_icmp_ge (pc' := 47) (t := 187) dX0_stepOn_44 rfl rfl (fun c_44 => ?_) (fun c_44 => ?_)
          · skip
            refine w_return rfl dX0_stepOn_187 ?_
            refine ⟨rfl, T1, P1, z1, rfl, fun f x w => ?_, hpp, hz⟩
            rw [ht f x w, show a = σ 23 ((PP 3) + 1) by omega, arr_sum hA hy.1 hy.2 (fun z => hW A 0 vis z f)]
            rfl
          · skip
            refine w_aload_n (pc' := 48) (i := 0) (by rfl) (by rfl) dX0_stepOn_47 rfl ?_
            refine w_getS (pc' := 51) (q := 14) fg_X0_22 kd_30 sf_X0_0 gr_30_0 dX0_stepOn_48 rfl ?_
            refine w_iload (pc' := 53) (by rfl) dX0_stepOn_51 rfl ?_
            refine v_callVE (pc' := 56) (st' := [gI (σ 24 a)]) (d' := 0) (av := [gI a]) mi_mX7_targetOf lk_X0_77 rfl ci_X7 kd_14 rfl (Nat.le_of_ble_eq_true rfl) (Nat.le_of_ble_eq_true rfl) dX0_stepOn_53 rfl rfl (k_targetOf (gUp (gUr (gUr σ 31 T1) 32 P1) 30 7 z1) a (by omega)) ?_
            refine w_istore (pc' := 58) (ls' := [gR 30, gI 3, gJ (P * 10000), gX 1, gI (PP 3), gI (σ 23 ((PP 3) + 1)), gI a, gI (σ 24 a), gX 1, gX 1]) (by decide) (by rfl) dX0_stepOn_56 rfl ?_
            refine w_iload (pc' := 60) (by rfl) dX0_stepOn_58 rfl ?_
            refine w_if_lt (pc' := 63) (t := 181) dX0_stepOn_60 rfl rfl (fun c_60 => ?_) (fun c_60 => ?_)
            · skip
              refine v_iinc (pc' := 184) (x := a) (ls' := [gR 30, gI 3, gJ (P * 10000), gX 1, gI (PP 3), gI (σ 23 ((PP 3) + 1)), gI (a + 1), gI (σ 24 a), gX 1, gX 1]) (by omega) (by decide) (by rfl) (by rfl) dX0_stepOn_181 rfl ?_
              refine w_goto (pc' := 40) dX0_stepOn_184 rfl ?_
              refine Wp.lose (ls' := [gR 30, gI 3, gJ (P * 10000), gX 1, gI (PP 3), gI (σ 23 ((PP 3) + 1)), gI (a + 1), gX 1, gX 1, gX 1]) ⟨.inr rfl, ⟨.inr rfl, ⟨.inr rfl, ⟨.inr rfl, ⟨.inr rfl, ⟨.inr rfl, ⟨.inr rfl, ⟨.inl rfl, ⟨.inr rfl, ⟨.inr rfl, trivial⟩⟩⟩⟩⟩⟩⟩⟩⟩⟩ ?_
              have ea : σ 23 (PP 3) + (a - σ 23 (PP 3)) = a := by omega
              have en : (a + 1 - σ 23 (PP 3)).toNat = (a - σ 23 (PP 3)).toNat + 1 := by omega
              have ez : ((a - σ 23 (PP 3)).toNat : Int) = a - σ 23 (PP 3) := by omega
              have es : ∀ f, sumI (fun j => σ 25 (σ 23 (PP 3) + j) * hW A 0 vis (σ 24 (σ 23 (PP 3) + j)) f) (a + 1 - σ 23 (PP 3)).toNat = sumI (fun j => σ 25 (σ 23 (PP 3) + j) * hW A 0 vis (σ 24 (σ 23 (PP 3) + j)) f) (a - σ 23 (PP 3)).toNat + σ 25 a * hW A 0 vis (σ 24 a) f := fun f => by
                rw [show a + 1 - σ 23 (PP 3) = a - σ 23 (PP 3) + 1 by omega, sumI_s (by omega), ea]
              exact ih_40 _ (by omega) (a + 1) T1 P1 z1 rfl (by omega) (by omega) (by intro f x w; rw [es f]; first | (exfalso; omega) | (rw [show hW A 0 vis (σ 24 a) f = 0 from if_pos ((hz (σ 24 a) (by omega) (by omega)).mp (cmpB.mp c_81)), Int.mul_zero, Int.add_zero]; exact ht f x w) | (rw [hT2 f x w, updE (j := 4) (i := 3+1) (by decide)]; exact stepT (k := 0) (c := 1) hv0 (by decide) (ht f x w) (ht _ (by omega) (by omega)))) (by first | exact hpp | (exfalso; omega) | (intro i x w; rw [hP2 i x (by omega), updI_ne (by omega)]; exact hpp i x w)) (by first | exact hz | (exfalso; omega) | (intro u x w; rw [bitI_clear (by omega) (by omega) x (by omega), hz2 u x w]; simp only [Bool.or_eq_true, decide_eq_true_eq]; constructor; (rintro ⟨h | h, h2⟩; exact h; exact absurd h h2); (intro h; refine ⟨Or.inl h, fun e => ?_⟩; rw [e] at h; exact hv0 h)))
            · skip
              refine w_iload (pc' := 65) (by rfl) dX0_stepOn_63 rfl ?_
              refine w_bipush (pc' := 67) (by decide) (by decide) dX0_stepOn_65 rfl ?_
              refine w_icmp_ge (pc' := 70) (t := 181) dX0_stepOn_67 rfl rfl (fun c_67 => ?_) (fun c_67 => ?_)
              · skip
                refine v_iinc (pc' := 184) (x := a) (ls' := [gR 30, gI 3, gJ (P * 10000), gX 1, gI (PP 3), gI (σ 23 ((PP 3) + 1)), gI (a + 1), gI (σ 24 a), gX 1, gX 1]) (by omega) (by decide) (by rfl) (by rfl) dX0_stepOn_181 rfl ?_
                refine w_goto (pc' := 40) dX0_stepOn_184 rfl ?_
                refine Wp.lose (ls' := [gR 30, gI 3, gJ (P * 10000), gX 1, gI (PP 3), gI (σ 23 ((PP 3) + 1)), gI (a + 1), gX 1, gX 1, gX 1]) ⟨.inr rfl, ⟨.inr rfl, ⟨.inr rfl, ⟨.inr rfl, ⟨.inr rfl, ⟨.inr rfl, ⟨.inr rfl, ⟨.inl rfl, ⟨.inr rfl, ⟨.inr rfl, trivial⟩⟩⟩⟩⟩⟩⟩⟩⟩⟩ ?_
                have ea : σ 23 (PP 3) + (a - σ 23 (PP 3)) = a := by omega
                have en : (a + 1 - σ 23 (PP 3)).toNat = (a - σ 23 (PP 3)).toNat + 1 := by omega
                have ez : ((a - σ 23 (PP 3)).toNat : Int) = a - σ 23 (PP 3) := by omega
                have es : ∀ f, sumI (fun j => σ 25 (σ 23 (PP 3) + j) * hW A 0 vis (σ 24 (σ 23 (PP 3) + j)) f) (a + 1 - σ 23 (PP 3)).toNat = sumI (fun j => σ 25 (σ 23 (PP 3) + j) * hW A 0 vis (σ 24 (σ 23 (PP 3) + j)) f) (a - σ 23 (PP 3)).toNat + σ 25 a * hW A 0 vis (σ 24 a) f := fun f => by
                  rw [show a + 1 - σ 23 (PP 3) = a - σ 23 (PP 3) + 1 by omega, sumI_s (by omega), ea]
                exact ih_40 _ (by omega) (a + 1) T1 P1 z1 rfl (by omega) (by omega) (by intro f x w; rw [es f]; first | (exfalso; omega) | (rw [show hW A 0 vis (σ 24 a) f = 0 from if_pos ((hz (σ 24 a) (by omega) (by omega)).mp (cmpB.mp c_81)), Int.mul_zero, Int.add_zero]; exact ht f x w) | (rw [hT2 f x w, updE (j := 4) (i := 3+1) (by decide)]; exact stepT (k := 0) (c := 1) hv0 (by decide) (ht f x w) (ht _ (by omega) (by omega)))) (by first | exact hpp | (exfalso; omega) | (intro i x w; rw [hP2 i x (by omega), updI_ne (by omega)]; exact hpp i x w)) (by first | exact hz | (exfalso; omega) | (intro u x w; rw [bitI_clear (by omega) (by omega) x (by omega), hz2 u x w]; simp only [Bool.or_eq_true, decide_eq_true_eq]; constructor; (rintro ⟨h | h, h2⟩; exact h; exact absurd h h2); (intro h; refine ⟨Or.inl h, fun e => ?_⟩; rw [e] at h; exact hv0 h)))
              · skip
                refine w_aload_n (pc' := 71) (i := 0) (by rfl) (by rfl) dX0_stepOn_70 rfl ?_
                refine v_getJ (pc' := 74) (ji := 7) rfl fg_X0_61 kd_30 dX0_stepOn_71 rfl ?_
                show Wp _ _ _ _ _ _ [gJ z1]
                refine w_iload (pc' := 76) (by rfl) dX0_stepOn_74 rfl ?_
                refine w_lshr (pc' := 77) dX0_stepOn_76 rfl ?_
                refine w_lconst (n := 1) (pc' := 78) (by decide) (by decide) dX0_stepOn_77 rfl ?_
                refine w_land (pc' := 79) dX0_stepOn_78 rfl ?_
                refine w_lconst (n := 0) (pc' := 80) (by decide) (by decide) dX0_stepOn_79 rfl ?_
                refine w_lcmp (pc' := 81) dX0_stepOn_80 rfl ?_
                refine w_if_ne (pc' := 84) (t := 181) dX0_stepOn_81 rfl rfl (fun c_81 => ?_) (fun c_81 => ?_)
                · skip
                  refine v_iinc (pc' := 184) (x := a) (ls' := [gR 30, gI 3, gJ (P * 10000), gX 1, gI (PP 3), gI (σ 23 ((PP 3) + 1)), gI (a + 1), gI (σ 24 a), gX 1, gX 1]) (by omega) (by decide) (by rfl) (by rfl) dX0_stepOn_181 rfl ?_
                  refine w_goto (pc' := 40) dX0_stepOn_184 rfl ?_
                  refine Wp.lose (ls' := [gR 30, gI 3, gJ (P * 10000), gX 1, gI (PP 3), gI (σ 23 ((PP 3) + 1)), gI (a + 1), gX 1, gX 1, gX 1]) ⟨.inr rfl, ⟨.inr rfl, ⟨.inr rfl, ⟨.inr rfl, ⟨.inr rfl, ⟨.inr rfl, ⟨.inr rfl, ⟨.inl rfl, ⟨.inr rfl, ⟨.inr rfl, trivial⟩⟩⟩⟩⟩⟩⟩⟩⟩⟩ ?_
                  have ea : σ 23 (PP 3) + (a - σ 23 (PP 3)) = a := by omega
                  have en : (a + 1 - σ 23 (PP 3)).toNat = (a - σ 23 (PP 3)).toNat + 1 := by omega
                  have ez : ((a - σ 23 (PP 3)).toNat : Int) = a - σ 23 (PP 3) := by omega
                  have es : ∀ f, sumI (fun j => σ 25 (σ 23 (PP 3) + j) * hW A 0 vis (σ 24 (σ 23 (PP 3) + j)) f) (a + 1 - σ 23 (PP 3)).toNat = sumI (fun j => σ 25 (σ 23 (PP 3) + j) * hW A 0 vis (σ 24 (σ 23 (PP 3) + j)) f) (a - σ 23 (PP 3)).toNat + σ 25 a * hW A 0 vis (σ 24 a) f := fun f => by
                    rw [show a + 1 - σ 23 (PP 3) = a - σ 23 (PP 3) + 1 by omega, sumI_s (by omega), ea]
                  exact ih_40 _ (by omega) (a + 1) T1 P1 z1 rfl (by omega) (by omega) (by intro f x w; rw [es f]; first | (exfalso; omega) | (rw [show hW A 0 vis (σ 24 a) f = 0 from if_pos ((hz (σ 24 a) (by omega) (by omega)).mp (cmpB.mp c_81)), Int.mul_zero, Int.add_zero]; exact ht f x w) | (rw [hT2 f x w, updE (j := 4) (i := 3+1) (by decide)]; exact stepT (k := 0) (c := 1) hv0 (by decide) (ht f x w) (ht _ (by omega) (by omega)))) (by first | exact hpp | (exfalso; omega) | (intro i x w; rw [hP2 i x (by omega), updI_ne (by omega)]; exact hpp i x w)) (by first | exact hz | (exfalso; omega) | (intro u x w; rw [bitI_clear (by omega) (by omega) x (by omega), hz2 u x w]; simp only [Bool.or_eq_true, decide_eq_true_eq]; constructor; (rintro ⟨h | h, h2⟩; exact h; exact absurd h h2); (intro h; refine ⟨Or.inl h, fun e => ?_⟩; rw [e] at h; exact hv0 h)))
                · skip
                  refine w_lload_n (pc' := 85) (i := 2) (by rfl) (by rfl) dX0_stepOn_84 rfl ?_
                  refine w_ldc2 (pc' := 88) (by decide) ct_X0_80 dX0_stepOn_85 rfl ?_
                  refine w_ldiv (pc' := 89) (by omega) dX0_stepOn_88 rfl ?_
                  refine Wp.stJ (y := P * 1) (show w64 ((P * 10000).tdiv 10000) = P * 1 from divx (c := 1) hP.1 (by decide) (by omega)) ?_
                  refine w_aload_n (pc' := 90) (i := 0) (by rfl) (by rfl) dX0_stepOn_89 rfl ?_
                  refine w_getS (pc' := 93) (q := 14) fg_X0_22 kd_30 sf_X0_0 gr_30_0 dX0_stepOn_90 rfl ?_
                  refine w_iload (pc' := 95) (by rfl) dX0_stepOn_93 rfl ?_
                  refine v_callVE (pc' := 98) (st' := [gI (σ 25 a), gJ (P * 1)]) (d' := 0) (av := [gI a]) mi_mX7_partOn lk_X0_82 rfl ci_X7 kd_14 rfl (Nat.le_of_ble_eq_true rfl) (Nat.le_of_ble_eq_true rfl) dX0_stepOn_95 rfl rfl (k_partOn (gUp (gUr (gUr σ 31 T1) 32 P1) 30 7 z1) a (by omega)) ?_
                  refine w_i2l (pc' := 99) dX0_stepOn_98 rfl ?_
                  refine v_lmul (pc' := 100) (by have h9 := mulb (M := 1000000000000) hP.1 hP.2 hpa.1 hpa.2; rw [← hpe (by omega)] at h9; have h8 : P * 1 * σ 25 a = (P * σ 25 a) * 1 := (by rw [Int.mul_assoc, Int.mul_comm 1, ← Int.mul_assoc]); rw [h8]; omega) dX0_stepOn_99 rfl ?_
                  refine Wp.stJ (y := (P * (σ 25 a)) * 1) (by rw [Int.mul_assoc, Int.mul_comm 1, ← Int.mul_assoc]) ?_
                  refine w_lstore (pc' := 102) (ls' := [gR 30, gI 3, gJ (P * 10000), gX 1, gI (PP 3), gI (σ 23 ((PP 3) + 1)), gI a, gI (σ 24 a), gJ ((P * (σ 25 a)) * 1), gX 1]) (by decide) (by rfl) dX0_stepOn_100 rfl ?_
                  have hv0 : ¬ vis (σ 24 a) = true := fun h => by
                    have := (hz (σ 24 a) (by omega) (by omega)).mpr h
                    exact cmpB.mpr this c_81
                  rw [← hpe (by omega)] at hpa
                  have hT1 : ∀ f, 0 ≤ f → f < 60 → gi64 (updI T1 (σ 24 a) (w64 (T1 (σ 24 a) + P * σ 25 a * 1)) f) := fun f x w => by
                    unfold updI
                    split
                    · exact w64_in _
                    · rw [ht f x w]; exact w64_in _
                  have hv1 : ∀ u, 0 ≤ u → u < 60 → (bitI (gB64 (fun a b => a ||| b) z1 (gS64 (fun a b => a <<< b) 1 (σ 24 a))) u ↔ (fun u => vis u || decide (u = σ 24 a)) u = true) := fun u x w => by
                    rw [bitI_set (by omega) (by omega) x (by omega), hz u x w]
                    simp only [Bool.or_eq_true, decide_eq_true_eq]
                  refine w_aload_n (pc' := 103) (i := 0) (by rfl) (by rfl) dX0_stepOn_102 rfl ?_
                  refine w_getS (pc' := 106) (q := 31) fg_X0_9 kd_30 sf_X0_1 gr_30_1 dX0_stepOn_103 rfl ?_
                  refine w_iload (pc' := 108) (by rfl) dX0_stepOn_106 rfl ?_
                  refine w_dup2 (pc' := 109) dX0_stepOn_108 rfl ?_
                  refine w_lald (pc' := 110) kd_31 (by omega) (by omega) dX0_stepOn_109 rfl ?_
                  show Wp _ _ _ _ _ _ [gJ (T1 (σ 24 a)), gI (σ 24 a), gR 31]
                  refine w_lload (pc' := 112) (by rfl) dX0_stepOn_110 rfl ?_
                  refine w_ladd (pc' := 113) dX0_stepOn_112 rfl ?_
                  refine w_last (pc' := 114) kd_31 (by omega) (by omega) dX0_stepOn_113 rfl ?_
                  refine Wp.heq (σ' := gUp (gUr (gUr σ 31 (updI T1 (σ 24 a) (w64 ((T1 (σ 24 a)) + ((P * (σ 25 a)) * 1))))) 32 P1) 30 7 z1) ((gUp_cu (by decide)).trans (congrArg (fun z => gUp z 30 7 z1) ((gUp_cr (by decide)).trans (congrArg (fun z => gUr z 32 P1) gUp_row)))) ?_
                  refine w_aload_n (pc' := 115) (i := 0) (by rfl) (by rfl) dX0_stepOn_114 rfl ?_
                  refine w_getS (pc' := 118) (q := 32) fg_X0_15 kd_30 sf_X0_2 gr_30_2 dX0_stepOn_115 rfl ?_
                  refine w_iload_n (pc' := 119) (i := 1) (by rfl) (by rfl) dX0_stepOn_118 rfl ?_
                  refine w_iconst (pc' := 120) (by decide) dX0_stepOn_119 rfl ?_
                  refine v_iadd (pc' := 121) (by omega) dX0_stepOn_120 rfl ?_
                  refine w_iload (pc' := 123) (by rfl) dX0_stepOn_121 rfl ?_
                  refine w_iast (pc' := 124) kd_32 (by omega) (by omega) dX0_stepOn_123 rfl ?_
                  refine Wp.heq (σ' := gUp (gUr (gUr σ 31 (updI T1 (σ 24 a) (w64 ((T1 (σ 24 a)) + ((P * (σ 25 a)) * 1))))) 32 (updI P1 (3 + 1) (σ 24 a))) 30 7 z1) ((gUp_cu (by decide)).trans (congrArg (fun z => gUp z 30 7 z1) gUp_row)) ?_
                  refine w_iload (pc' := 126) (by rfl) dX0_stepOn_124 rfl ?_
                  refine w_aload_n (pc' := 127) (i := 0) (by rfl) (by rfl) dX0_stepOn_126 rfl ?_
                  refine v_getI (pc' := 130) (ji := 6) rfl fg_X0_58 kd_30 dX0_stepOn_127 rfl ?_
                  show Wp _ _ _ _ _ _ [gI (σ 30 6), gI (σ 24 a)]
                  refine w_icmp_ne (pc' := 133) (t := 142) dX0_stepOn_130 rfl rfl (fun c_130 => ?_) (fun c_130 => ?_)
                  · skip
                    refine w_aload_n (pc' := 143) (i := 0) (by rfl) (by rfl) dX0_stepOn_142 rfl ?_
                    refine w_dup (pc' := 144) dX0_stepOn_143 rfl ?_
                    refine v_getJ (pc' := 147) (ji := 7) rfl fg_X0_61 kd_30 dX0_stepOn_144 rfl ?_
                    show Wp _ _ _ _ _ _ [gJ z1, gR 30]
                    refine w_lconst (n := 1) (pc' := 148) (by decide) (by decide) dX0_stepOn_147 rfl ?_
                    refine w_iload (pc' := 150) (by rfl) dX0_stepOn_148 rfl ?_
                    refine w_lshl (pc' := 151) dX0_stepOn_150 rfl ?_
                    refine w_lor (pc' := 152) dX0_stepOn_151 rfl ?_
                    refine v_putJ (pc' := 155) (ji := 7) rfl fp_X0_61 kd_30 sf_X0_7 dX0_stepOn_152 rfl ?_
                    refine Wp.heq (σ' := gUp (gUr (gUr σ 31 (updI T1 (σ 24 a) (w64 ((T1 (σ 24 a)) + ((P * (σ 25 a)) * 1))))) 32 (updI P1 (3 + 1) (σ 24 a))) 30 7 (gB64 (fun a b => a ||| b) z1 (gS64 (fun a b => a <<< b) 1 (σ 24 a)))) gUp_same ?_
                    refine w_aload_n (pc' := 156) (i := 0) (by rfl) (by rfl) dX0_stepOn_155 rfl ?_
                    refine w_iload_n (pc' := 157) (i := 1) (by rfl) (by rfl) dX0_stepOn_156 rfl ?_
                    refine w_iconst (pc' := 158) (by decide) dX0_stepOn_157 rfl ?_
                    refine v_iadd (pc' := 159) (by omega) dX0_stepOn_158 rfl ?_
                    refine w_lload (pc' := 161) (by rfl) dX0_stepOn_159 rfl ?_
                    refine w_callS (pc' := 164) (d' := 1) (av := [gR 30, gI (3 + 1), gJ ((P * (σ 25 a)) * 1)]) ms_mX0_stepOn st_mX0_stepOn lk_X0_66 rfl rfl (Nat.le_of_ble_eq_true rfl) (Nat.le_of_ble_eq_true rfl) dX0_stepOn_161 rfl (k_step0 (A := A) hA hp hgl (updI T1 (σ 24 a) (w64 ((T1 (σ 24 a)) + ((P * (σ 25 a)) * 1)))) (updI P1 (3 + 1) (σ 24 a)) (gB64 (fun a b => a ||| b) z1 (gS64 (fun a b => a <<< b) 1 (σ 24 a))) (P * (σ 25 a)) (fun u => vis u || decide (u = σ 24 a)) (by have := mulb hP.1 hP.2 (hpa.1) (hpa.2); omega) (by rw [updE (by decide)]; omega) hT1 hv1) (fun v_161 σ_161 q_161 => ?_)
                    obtain ⟨rfl, T2, P2, z2, rfl, hT2, hP2, hz2⟩ := q_161
                    show Wp _ _ _ _ _ _ []
                    refine w_aload_n (pc' := 165) (i := 0) (by rfl) (by rfl) dX0_stepOn_164 rfl ?_
                    refine w_dup (pc' := 166) dX0_stepOn_165 rfl ?_
                    refine v_getJ (pc' := 169) (ji := 7) rfl fg_X0_61 kd_30 dX0_stepOn_166 rfl ?_
                    show Wp _ _ _ _ _ _ [gJ z2, gR 30]
                    refine w_lconst (n := 1) (pc' := 170) (by decide) (by decide) dX0_stepOn_169 rfl ?_
                    refine w_iload (pc' := 172) (by rfl) dX0_stepOn_170 rfl ?_
                    refine w_lshl (pc' := 173) dX0_stepOn_172 rfl ?_
                    refine w_ldc2 (pc' := 176) (by decide) ct_X0_89 dX0_stepOn_173 rfl ?_
                    refine w_lxor (pc' := 177) dX0_stepOn_176 rfl ?_
                    refine w_land (pc' := 178) dX0_stepOn_177 rfl ?_
                    refine v_putJ (pc' := 181) (ji := 7) rfl fp_X0_61 kd_30 sf_X0_7 dX0_stepOn_178 rfl ?_
                    refine Wp.heq (σ' := gUp (gUr (gUr σ 31 T2) 32 P2) 30 7 (gB64 (fun a b => a &&& b) z2 (gB64 (fun a b => a ^^^ b) (gS64 (fun a b => a <<< b) 1 (σ 24 a)) (-1)))) gUp_same ?_
                    refine v_iinc (pc' := 184) (x := a) (ls' := [gR 30, gI 3, gJ (P * 10000), gX 1, gI (PP 3), gI (σ 23 ((PP 3) + 1)), gI (a + 1), gI (σ 24 a), gJ ((P * (σ 25 a)) * 1), gX 1]) (by omega) (by decide) (by rfl) (by rfl) dX0_stepOn_181 rfl ?_
                    refine w_goto (pc' := 40) dX0_stepOn_184 rfl ?_
                    refine Wp.lose (ls' := [gR 30, gI 3, gJ (P * 10000), gX 1, gI (PP 3), gI (σ 23 ((PP 3) + 1)), gI (a + 1), gX 1, gX 1, gX 1]) ⟨.inr rfl, ⟨.inr rfl, ⟨.inr rfl, ⟨.inr rfl, ⟨.inr rfl, ⟨.inr rfl, ⟨.inr rfl, ⟨.inl rfl, ⟨.inl rfl, ⟨.inr rfl, trivial⟩⟩⟩⟩⟩⟩⟩⟩⟩⟩ ?_
                    have ea : σ 23 (PP 3) + (a - σ 23 (PP 3)) = a := by omega
                    have en : (a + 1 - σ 23 (PP 3)).toNat = (a - σ 23 (PP 3)).toNat + 1 := by omega
                    have ez : ((a - σ 23 (PP 3)).toNat : Int) = a - σ 23 (PP 3) := by omega
                    have es : ∀ f, sumI (fun j => σ 25 (σ 23 (PP 3) + j) * hW A 0 vis (σ 24 (σ 23 (PP 3) + j)) f) (a + 1 - σ 23 (PP 3)).toNat = sumI (fun j => σ 25 (σ 23 (PP 3) + j) * hW A 0 vis (σ 24 (σ 23 (PP 3) + j)) f) (a - σ 23 (PP 3)).toNat + σ 25 a * hW A 0 vis (σ 24 a) f := fun f => by
                      rw [show a + 1 - σ 23 (PP 3) = a - σ 23 (PP 3) + 1 by omega, sumI_s (by omega), ea]
                    exact ih_40 _ (by omega) (a + 1) T2 P2 (gB64 (fun a b => a &&& b) z2 (gB64 (fun a b => a ^^^ b) (gS64 (fun a b => a <<< b) 1 (σ 24 a)) (-1))) rfl (by omega) (by omega) (by intro f x w; rw [es f]; first | (exfalso; omega) | (rw [show hW A 0 vis (σ 24 a) f = 0 from if_pos ((hz (σ 24 a) (by omega) (by omega)).mp (cmpB.mp c_81)), Int.mul_zero, Int.add_zero]; exact ht f x w) | (rw [hT2 f x w, updE (j := 4) (i := 3+1) (by decide)]; exact stepT (k := 0) (c := 1) hv0 (by decide) (ht f x w) (ht _ (by omega) (by omega)))) (by first | exact hpp | (exfalso; omega) | (intro i x w; rw [hP2 i x (by omega), updI_ne (by omega)]; exact hpp i x w)) (by first | exact hz | (exfalso; omega) | (intro u x w; rw [bitI_clear (by omega) (by omega) x (by omega), hz2 u x w]; simp only [Bool.or_eq_true, decide_eq_true_eq]; constructor; (rintro ⟨h | h, h2⟩; exact h; exact absurd h h2); (intro h; refine ⟨Or.inl h, fun e => ?_⟩; rw [e] at h; exact hv0 h)))
                  · skip
                    exfalso; omega
      exact hl_40 _ (σ 23 (PP 3)) TT PP z rfl (by omega) (by omega) (by intro f x w; rw [Int.sub_self]; show TT f = w64 (TT f + P * 0); rw [Int.mul_zero, Int.add_zero]; exact (w64_id (hT f x w)).symm) (by intro i x w; rfl) (by exact hv)
    · skip
      exact absurd c_6 (by decide)
set_option maxHeartbeats 4000000 in
theorem k_step2 {σ : gH} {A : Int → Int → Int} (hA : ARW (σ 23) (σ 24) (σ 25) A) (hp : ∀ c f, 0 ≤ A c f ∧ A c f ≤ 10000) (hgl : σ 30 6 = -1) (TT PP : Int → Int) (z P : Int) (vis : Int → Bool) (hP : 0 ≤ P ∧ P ≤ 100000000) (hy : 0 ≤ PP 2 ∧ PP 2 < 60) (hT : ∀ f, 0 ≤ f → f < 60 → gi64 (TT f)) (hv : ∀ u, 0 ≤ u → u < 60 → (bitI z u ↔ vis u = true)) : Mt mX0_stepOn 3 [gR 30, gI 2, gJ (P * 100000000)] (gUp (gUr (gUr σ 31 TT) 32 PP) 30 7 z) (fun v σ' => v = gX 1 ∧ ∃ T_ P_ z_, σ' = gUp (gUr (gUr σ 31 T_) 32 P_) 30 7 z_ ∧ (∀ f, 0 ≤ f → f < 60 → T_ f = w64 (TT f + P * pS A 2 vis (PP 2) f)) ∧ (∀ i, 0 ≤ i → i ≤ 2 → P_ i = PP i) ∧ ∀ u, 0 ≤ u → u < 60 → (bitI z_ u ↔ vis u = true)) := by
  refine Mt.walk (ls := [gR 30, gI 2, gJ (P * 100000000), gX 1, gX 1, gX 1, gX 1, gX 1, gX 1, gX 1]) pn_X0 rfl (fun _ _ h => by cases h.1) (Nat.le_of_ble_eq_true rfl) rfl ?_
  refine w_iload_n (pc' := 1) (i := 1) (by rfl) (by rfl) dX0_stepOn_0 rfl ?_
  refine w_if_lt (pc' := 4) (t := 9) dX0_stepOn_1 rfl rfl (fun c_1 => ?_) (fun c_1 => ?_)
  · skip
    exact absurd c_1 (by decide)
  · skip
    refine w_iload_n (pc' := 5) (i := 1) (by rfl) (by rfl) dX0_stepOn_4 rfl ?_
    refine w_iconst (pc' := 6) (by decide) dX0_stepOn_5 rfl ?_
    refine w_icmp_lt (pc' := 9) (t := 10) dX0_stepOn_6 rfl rfl (fun c_6 => ?_) (fun c_6 => ?_)
    · skip
      refine w_aload_n (pc' := 11) (i := 0) (by rfl) (by rfl) dX0_stepOn_10 rfl ?_
      refine w_getS (pc' := 14) (q := 32) fg_X0_15 kd_30 sf_X0_2 gr_30_2 dX0_stepOn_11 rfl ?_
      refine w_iload_n (pc' := 15) (i := 1) (by rfl) (by rfl) dX0_stepOn_14 rfl ?_
      refine w_iald (pc' := 16) kd_32 (by omega) (by omega) dX0_stepOn_15 rfl ?_
      show Wp _ _ _ _ _ _ [gI (PP 2)]
      refine w_istore (pc' := 18) (ls' := [gR 30, gI 2, gJ (P * 100000000), gX 1, gI (PP 2), gX 1, gX 1, gX 1, gX 1, gX 1]) (by decide) (by rfl) dX0_stepOn_16 rfl ?_
      refine w_aload_n (pc' := 19) (i := 0) (by rfl) (by rfl) dX0_stepOn_18 rfl ?_
      refine w_getS (pc' := 22) (q := 14) fg_X0_22 kd_30 sf_X0_0 gr_30_0 dX0_stepOn_19 rfl ?_
      refine w_iload (pc' := 24) (by rfl) dX0_stepOn_22 rfl ?_
      refine v_callVE (pc' := 27) (st' := [gI (σ 23 ((PP 2) + 1))]) (d' := 0) (av := [gI (PP 2)]) mi_mX7_pastArrows lk_X0_70 rfl ci_X7 kd_14 rfl (Nat.le_of_ble_eq_true rfl) (Nat.le_of_ble_eq_true rfl) dX0_stepOn_24 rfl rfl (k_pastArrows (gUp (gUr (gUr σ 31 TT) 32 PP) 30 7 z) (PP 2) (by omega)) ?_
      refine w_istore (pc' := 29) (ls' := [gR 30, gI 2, gJ (P * 100000000), gX 1, gI (PP 2), gI (σ 23 ((PP 2) + 1)), gX 1, gX 1, gX 1, gX 1]) (by decide) (by rfl) dX0_stepOn_27 rfl ?_
      refine w_aload_n (pc' := 30) (i := 0) (by rfl) (by rfl) dX0_stepOn_29 rfl ?_
      refine w_getS (pc' := 33) (q := 14) fg_X0_22 kd_30 sf_X0_0 gr_30_0 dX0_stepOn_30 rfl ?_
      refine w_iload (pc' := 35) (by rfl) dX0_stepOn_33 rfl ?_
      refine v_callVE (pc' := 38) (st' := [gI (σ 23 (PP 2))]) (d' := 0) (av := [gI (PP 2)]) mi_mX7_firstArrow lk_X0_74 rfl ci_X7 kd_14 rfl (Nat.le_of_ble_eq_true rfl) (Nat.le_of_ble_eq_true rfl) dX0_stepOn_35 rfl rfl (k_firstArrow (gUp (gUr (gUr σ 31 TT) 32 PP) 30 7 z) (PP 2) (by omega)) ?_
      refine w_istore (pc' := 40) (ls' := [gR 30, gI 2, gJ (P * 100000000), gX 1, gI (PP 2), gI (σ 23 ((PP 2) + 1)), gI (σ 23 (PP 2)), gX 1, gX 1, gX 1]) (by decide) (by rfl) dX0_stepOn_38 rfl ?_
      have hS := hA.2.1 (PP 2) hy.1 hy.2
      have hl_40 : ∀ (mm : Nat) (a : Int) (T1 P1 : Int → Int) (z1 : Int), (σ 23 ((PP 2) + 1) - a).toNat = mm → (σ 23 (PP 2) ≤ a) → (a ≤ σ 23 ((PP 2) + 1)) → (∀ f, 0 ≤ f → f < 60 → T1 f = w64 (TT f + P * sumI (fun j => σ 25 (σ 23 (PP 2) + j) * hW A 1 vis (σ 24 (σ 23 (PP 2) + j)) f) (a - σ 23 (PP 2)).toNat)) → (∀ i, 0 ≤ i → i ≤ 2 → P1 i = PP i) → (∀ u, 0 ≤ u → u < 60 → (bitI z1 u ↔ vis u = true)) → Wp mX0_stepOn 3 (fun v σ' => v = gX 1 ∧ ∃ T_ P_ z_, σ' = gUp (gUr (gUr σ 31 T_) 32 P_) 30 7 z_ ∧ (∀ f, 0 ≤ f → f < 60 → T_ f = w64 (TT f + P * pS A 2 vis (PP 2) f)) ∧ (∀ i, 0 ≤ i → i ≤ 2 → P_ i = PP i) ∧ ∀ u, 0 ≤ u → u < 60 → (bitI z_ u ↔ vis u = true)) (gUp (gUr (gUr σ 31 T1) 32 P1) 30 7 z1) 40 [gR 30, gI 2, gJ (P * 100000000), gX 1, gI (PP 2), gI (σ 23 ((PP 2) + 1)), gI a, gX 1, gX 1, gX 1] [] := by
        intro m_40
        induction m_40 using Nat.strongRecOn with
        | _ m_40 ih_40 =>
          intro a T1 P1 z1 hmeas_40 h0 h1 ht hpp hz
          have hS := hA.2.1 (PP 2) hy.1 hy.2
          have har := fun h : a < σ 23 ((PP 2) + 1) => hA.2.2.1 (PP 2) hy.1 hy.2 a h0 h
          have hpa := hp (PP 2) (σ 24 a)
          have hpe : a < σ 23 ((PP 2) + 1) → σ 25 a = A (PP 2) (σ 24 a) := fun h => (har h).2.2.1
          refine w_iload (pc' := 42) (by rfl) dX0_stepOn_40 rfl ?_
          refine w_iload (pc' := 44) (by rfl) dX0_stepOn_42 rfl ?_
          refine w_icmp_ge (pc' := 47) (t := 187) dX0_stepOn_44 rfl rfl (fun c_44 => ?_) (fun c_44 => ?_)
          · skip
            refine w_return rfl dX0_stepOn_187 ?_
            refine ⟨rfl, T1, P1, z1, rfl, fun f x w => ?_, hpp, hz⟩
            rw [ht f x w, show a = σ 23 ((PP 2) + 1) by omega, arr_sum hA hy.1 hy.2 (fun z => hW A 1 vis z f)]
            rfl
          · skip
            refine w_aload_n (pc' := 48) (i := 0) (by rfl) (by rfl) dX0_stepOn_47 rfl ?_
            refine w_getS (pc' := 51) (q := 14) fg_X0_22 kd_30 sf_X0_0 gr_30_0 dX0_stepOn_48 rfl ?_
            refine w_iload (pc' := 53) (by rfl) dX0_stepOn_51 rfl ?_
            refine v_callVE (pc' := 56) (st' := [gI (σ 24 a)]) (d' := 0) (av := [gI a]) mi_mX7_targetOf lk_X0_77 rfl ci_X7 kd_14 rfl (Nat.le_of_ble_eq_true rfl) (Nat.le_of_ble_eq_true rfl) dX0_stepOn_53 rfl rfl (k_targetOf (gUp (gUr (gUr σ 31 T1) 32 P1) 30 7 z1) a (by omega)) ?_
            refine w_istore (pc' := 58) (ls' := [gR 30, gI 2, gJ (P * 100000000), gX 1, gI (PP 2), gI (σ 23 ((PP 2) + 1)), gI a, gI (σ 24 a), gX 1, gX 1]) (by decide) (by rfl) dX0_stepOn_56 rfl ?_
            refine w_iload (pc' := 60) (by rfl) dX0_stepOn_58 rfl ?_
            refine w_if_lt (pc' := 63) (t := 181) dX0_stepOn_60 rfl rfl (fun c_60 => ?_) (fun c_60 => ?_)
            · skip
              refine v_iinc (pc' := 184) (x := a) (ls' := [gR 30, gI 2, gJ (P * 100000000), gX 1, gI (PP 2), gI (σ 23 ((PP 2) + 1)), gI (a + 1), gI (σ 24 a), gX 1, gX 1]) (by omega) (by decide) (by rfl) (by rfl) dX0_stepOn_181 rfl ?_
              refine w_goto (pc' := 40) dX0_stepOn_184 rfl ?_
              refine Wp.lose (ls' := [gR 30, gI 2, gJ (P * 100000000), gX 1, gI (PP 2), gI (σ 23 ((PP 2) + 1)), gI (a + 1), gX 1, gX 1, gX 1]) ⟨.inr rfl, ⟨.inr rfl, ⟨.inr rfl, ⟨.inr rfl, ⟨.inr rfl, ⟨.inr rfl, ⟨.inr rfl, ⟨.inl rfl, ⟨.inr rfl, ⟨.inr rfl, trivial⟩⟩⟩⟩⟩⟩⟩⟩⟩⟩ ?_
              have ea : σ 23 (PP 2) + (a - σ 23 (PP 2)) = a := by omega
              have en : (a + 1 - σ 23 (PP 2)).toNat = (a - σ 23 (PP 2)).toNat + 1 := by omega
              have ez : ((a - σ 23 (PP 2)).toNat : Int) = a - σ 23 (PP 2) := by omega
              have es : ∀ f, sumI (fun j => σ 25 (σ 23 (PP 2) + j) * hW A 1 vis (σ 24 (σ 23 (PP 2) + j)) f) (a + 1 - σ 23 (PP 2)).toNat = sumI (fun j => σ 25 (σ 23 (PP 2) + j) * hW A 1 vis (σ 24 (σ 23 (PP 2) + j)) f) (a - σ 23 (PP 2)).toNat + σ 25 a * hW A 1 vis (σ 24 a) f := fun f => by
                rw [show a + 1 - σ 23 (PP 2) = a - σ 23 (PP 2) + 1 by omega, sumI_s (by omega), ea]
              exact ih_40 _ (by omega) (a + 1) T1 P1 z1 rfl (by omega) (by omega) (by intro f x w; rw [es f]; first | (exfalso; omega) | (rw [show hW A 1 vis (σ 24 a) f = 0 from if_pos ((hz (σ 24 a) (by omega) (by omega)).mp (cmpB.mp c_81)), Int.mul_zero, Int.add_zero]; exact ht f x w) | (rw [hT2 f x w, updE (j := 3) (i := 2+1) (by decide)]; exact stepT (k := 1) (c := 10000) hv0 (by decide) (ht f x w) (ht _ (by omega) (by omega)))) (by first | exact hpp | (exfalso; omega) | (intro i x w; rw [hP2 i x (by omega), updI_ne (by omega)]; exact hpp i x w)) (by first | exact hz | (exfalso; omega) | (intro u x w; rw [bitI_clear (by omega) (by omega) x (by omega), hz2 u x w]; simp only [Bool.or_eq_true, decide_eq_true_eq]; constructor; (rintro ⟨h | h, h2⟩; exact h; exact absurd h h2); (intro h; refine ⟨Or.inl h, fun e => ?_⟩; rw [e] at h; exact hv0 h)))
            · skip
              refine w_iload (pc' := 65) (by rfl) dX0_stepOn_63 rfl ?_
              refine w_bipush (pc' := 67) (by decide) (by decide) dX0_stepOn_65 rfl ?_
              refine w_icmp_ge (pc' := 70) (t := 181) dX0_stepOn_67 rfl rfl (fun c_67 => ?_) (fun c_67 => ?_)
              · skip
                refine v_iinc (pc' := 184) (x := a) (ls' := [gR 30, gI 2, gJ (P * 100000000), gX 1, gI (PP 2), gI (σ 23 ((PP 2) + 1)), gI (a + 1), gI (σ 24 a), gX 1, gX 1]) (by omega) (by decide) (by rfl) (by rfl) dX0_stepOn_181 rfl ?_
                refine w_goto (pc' := 40) dX0_stepOn_184 rfl ?_
                refine Wp.lose (ls' := [gR 30, gI 2, gJ (P * 100000000), gX 1, gI (PP 2), gI (σ 23 ((PP 2) + 1)), gI (a + 1), gX 1, gX 1, gX 1]) ⟨.inr rfl, ⟨.inr rfl, ⟨.inr rfl, ⟨.inr rfl, ⟨.inr rfl, ⟨.inr rfl, ⟨.inr rfl, ⟨.inl rfl, ⟨.inr rfl, ⟨.inr rfl, trivial⟩⟩⟩⟩⟩⟩⟩⟩⟩⟩ ?_
                have ea : σ 23 (PP 2) + (a - σ 23 (PP 2)) = a := by omega
                have en : (a + 1 - σ 23 (PP 2)).toNat = (a - σ 23 (PP 2)).toNat + 1 := by omega
                have ez : ((a - σ 23 (PP 2)).toNat : Int) = a - σ 23 (PP 2) := by omega
                have es : ∀ f, sumI (fun j => σ 25 (σ 23 (PP 2) + j) * hW A 1 vis (σ 24 (σ 23 (PP 2) + j)) f) (a + 1 - σ 23 (PP 2)).toNat = sumI (fun j => σ 25 (σ 23 (PP 2) + j) * hW A 1 vis (σ 24 (σ 23 (PP 2) + j)) f) (a - σ 23 (PP 2)).toNat + σ 25 a * hW A 1 vis (σ 24 a) f := fun f => by
                  rw [show a + 1 - σ 23 (PP 2) = a - σ 23 (PP 2) + 1 by omega, sumI_s (by omega), ea]
                exact ih_40 _ (by omega) (a + 1) T1 P1 z1 rfl (by omega) (by omega) (by intro f x w; rw [es f]; first | (exfalso; omega) | (rw [show hW A 1 vis (σ 24 a) f = 0 from if_pos ((hz (σ 24 a) (by omega) (by omega)).mp (cmpB.mp c_81)), Int.mul_zero, Int.add_zero]; exact ht f x w) | (rw [hT2 f x w, updE (j := 3) (i := 2+1) (by decide)]; exact stepT (k := 1) (c := 10000) hv0 (by decide) (ht f x w) (ht _ (by omega) (by omega)))) (by first | exact hpp | (exfalso; omega) | (intro i x w; rw [hP2 i x (by omega), updI_ne (by omega)]; exact hpp i x w)) (by first | exact hz | (exfalso; omega) | (intro u x w; rw [bitI_clear (by omega) (by omega) x (by omega), hz2 u x w]; simp only [Bool.or_eq_true, decide_eq_true_eq]; constructor; (rintro ⟨h | h, h2⟩; exact h; exact absurd h h2); (intro h; refine ⟨Or.inl h, fun e => ?_⟩; rw [e] at h; exact hv0 h)))
              · skip
                refine w_aload_n (pc' := 71) (i := 0) (by rfl) (by rfl) dX0_stepOn_70 rfl ?_
                refine v_getJ (pc' := 74) (ji := 7) rfl fg_X0_61 kd_30 dX0_stepOn_71 rfl ?_
                show Wp _ _ _ _ _ _ [gJ z1]
                refine w_iload (pc' := 76) (by rfl) dX0_stepOn_74 rfl ?_
                refine w_lshr (pc' := 77) dX0_stepOn_76 rfl ?_
                refine w_lconst (n := 1) (pc' := 78) (by decide) (by decide) dX0_stepOn_77 rfl ?_
                refine w_land (pc' := 79) dX0_stepOn_78 rfl ?_
                refine w_lconst (n := 0) (pc' := 80) (by decide) (by decide) dX0_stepOn_79 rfl ?_
                refine w_lcmp (pc' := 81) dX0_stepOn_80 rfl ?_
                refine w_if_ne (pc' := 84) (t := 181) dX0_stepOn_81 rfl rfl (fun c_81 => ?_) (fun c_81 => ?_)
                · skip
                  refine v_iinc (pc' := 184) (x := a) (ls' := [gR 30, gI 2, gJ (P * 100000000), gX 1, gI (PP 2), gI (σ 23 ((PP 2) + 1)), gI (a + 1), gI (σ 24 a), gX 1, gX 1]) (by omega) (by decide) (by rfl) (by rfl) dX0_stepOn_181 rfl ?_
                  refine w_goto (pc' := 40) dX0_stepOn_184 rfl ?_
                  refine Wp.lose (ls' := [gR 30, gI 2, gJ (P * 100000000), gX 1, gI (PP 2), gI (σ 23 ((PP 2) + 1)), gI (a + 1), gX 1, gX 1, gX 1]) ⟨.inr rfl, ⟨.inr rfl, ⟨.inr rfl, ⟨.inr rfl, ⟨.inr rfl, ⟨.inr rfl, ⟨.inr rfl, ⟨.inl rfl, ⟨.inr rfl, ⟨.inr rfl, trivial⟩⟩⟩⟩⟩⟩⟩⟩⟩⟩ ?_
                  have ea : σ 23 (PP 2) + (a - σ 23 (PP 2)) = a := by omega
                  have en : (a + 1 - σ 23 (PP 2)).toNat = (a - σ 23 (PP 2)).toNat + 1 := by omega
                  have ez : ((a - σ 23 (PP 2)).toNat : Int) = a - σ 23 (PP 2) := by omega
                  have es : ∀ f, sumI (fun j => σ 25 (σ 23 (PP 2) + j) * hW A 1 vis (σ 24 (σ 23 (PP 2) + j)) f) (a + 1 - σ 23 (PP 2)).toNat = sumI (fun j => σ 25 (σ 23 (PP 2) + j) * hW A 1 vis (σ 24 (σ 23 (PP 2) + j)) f) (a - σ 23 (PP 2)).toNat + σ 25 a * hW A 1 vis (σ 24 a) f := fun f => by
                    rw [show a + 1 - σ 23 (PP 2) = a - σ 23 (PP 2) + 1 by omega, sumI_s (by omega), ea]
                  exact ih_40 _ (by omega) (a + 1) T1 P1 z1 rfl (by omega) (by omega) (by intro f x w; rw [es f]; first | (exfalso; omega) | (rw [show hW A 1 vis (σ 24 a) f = 0 from if_pos ((hz (σ 24 a) (by omega) (by omega)).mp (cmpB.mp c_81)), Int.mul_zero, Int.add_zero]; exact ht f x w) | (rw [hT2 f x w, updE (j := 3) (i := 2+1) (by decide)]; exact stepT (k := 1) (c := 10000) hv0 (by decide) (ht f x w) (ht _ (by omega) (by omega)))) (by first | exact hpp | (exfalso; omega) | (intro i x w; rw [hP2 i x (by omega), updI_ne (by omega)]; exact hpp i x w)) (by first | exact hz | (exfalso; omega) | (intro u x w; rw [bitI_clear (by omega) (by omega) x (by omega), hz2 u x w]; simp only [Bool.or_eq_true, decide_eq_true_eq]; constructor; (rintro ⟨h | h, h2⟩; exact h; exact absurd h h2); (intro h; refine ⟨Or.inl h, fun e => ?_⟩; rw [e] at h; exact hv0 h)))
                · skip
                  refine w_lload_n (pc' := 85) (i := 2) (by rfl) (by rfl) dX0_stepOn_84 rfl ?_
                  refine w_ldc2 (pc' := 88) (by decide) ct_X0_80 dX0_stepOn_85 rfl ?_
                  refine w_ldiv (pc' := 89) (by omega) dX0_stepOn_88 rfl ?_
                  refine Wp.stJ (y := P * 10000) (show w64 ((P * 100000000).tdiv 10000) = P * 10000 from divx (c := 10000) hP.1 (by decide) (by omega)) ?_
                  refine w_aload_n (pc' := 90) (i := 0) (by rfl) (by rfl) dX0_stepOn_89 rfl ?_
                  refine w_getS (pc' := 93) (q := 14) fg_X0_22 kd_30 sf_X0_0 gr_30_0 dX0_stepOn_90 rfl ?_
                  refine w_iload (pc' := 95) (by rfl) dX0_stepOn_93 rfl ?_
                  refine v_callVE (pc' := 98) (st' := [gI (σ 25 a), gJ (P * 10000)]) (d' := 0) (av := [gI a]) mi_mX7_partOn lk_X0_82 rfl ci_X7 kd_14 rfl (Nat.le_of_ble_eq_true rfl) (Nat.le_of_ble_eq_true rfl) dX0_stepOn_95 rfl rfl (k_partOn (gUp (gUr (gUr σ 31 T1) 32 P1) 30 7 z1) a (by omega)) ?_
                  refine w_i2l (pc' := 99) dX0_stepOn_98 rfl ?_
                  refine v_lmul (pc' := 100) (by have h9 := mulb (M := 100000000) hP.1 hP.2 hpa.1 hpa.2; rw [← hpe (by omega)] at h9; have h8 : P * 10000 * σ 25 a = (P * σ 25 a) * 10000 := (by rw [Int.mul_assoc, Int.mul_comm 10000, ← Int.mul_assoc]); rw [h8]; omega) dX0_stepOn_99 rfl ?_
                  refine Wp.stJ (y := (P * (σ 25 a)) * 10000) (by rw [Int.mul_assoc, Int.mul_comm 10000, ← Int.mul_assoc]) ?_
                  refine w_lstore (pc' := 102) (ls' := [gR 30, gI 2, gJ (P * 100000000), gX 1, gI (PP 2), gI (σ 23 ((PP 2) + 1)), gI a, gI (σ 24 a), gJ ((P * (σ 25 a)) * 10000), gX 1]) (by decide) (by rfl) dX0_stepOn_100 rfl ?_
                  have hv0 : ¬ vis (σ 24 a) = true := fun h => by
                    have := (hz (σ 24 a) (by omega) (by omega)).mpr h
                    exact cmpB.mpr this c_81
                  rw [← hpe (by omega)] at hpa
                  have hT1 : ∀ f, 0 ≤ f → f < 60 → gi64 (updI T1 (σ 24 a) (w64 (T1 (σ 24 a) + P * σ 25 a * 10000)) f) := fun f x w => by
                    unfold updI
                    split
                    · exact w64_in _
                    · rw [ht f x w]; exact w64_in _
                  have hv1 : ∀ u, 0 ≤ u → u < 60 → (bitI (gB64 (fun a b => a ||| b) z1 (gS64 (fun a b => a <<< b) 1 (σ 24 a))) u ↔ (fun u => vis u || decide (u = σ 24 a)) u = true) := fun u x w => by
                    rw [bitI_set (by omega) (by omega) x (by omega), hz u x w]
                    simp only [Bool.or_eq_true, decide_eq_true_eq]
                  refine w_aload_n (pc' := 103) (i := 0) (by rfl) (by rfl) dX0_stepOn_102 rfl ?_
                  refine w_getS (pc' := 106) (q := 31) fg_X0_9 kd_30 sf_X0_1 gr_30_1 dX0_stepOn_103 rfl ?_
                  refine w_iload (pc' := 108) (by rfl) dX0_stepOn_106 rfl ?_
                  refine w_dup2 (pc' := 109) dX0_stepOn_108 rfl ?_
                  refine w_lald (pc' := 110) kd_31 (by omega) (by omega) dX0_stepOn_109 rfl ?_
                  show Wp _ _ _ _ _ _ [gJ (T1 (σ 24 a)), gI (σ 24 a), gR 31]
                  refine w_lload (pc' := 112) (by rfl) dX0_stepOn_110 rfl ?_
                  refine w_ladd (pc' := 113) dX0_stepOn_112 rfl ?_
                  refine w_last (pc' := 114) kd_31 (by omega) (by omega) dX0_stepOn_113 rfl ?_
                  refine Wp.heq (σ' := gUp (gUr (gUr σ 31 (updI T1 (σ 24 a) (w64 ((T1 (σ 24 a)) + ((P * (σ 25 a)) * 10000))))) 32 P1) 30 7 z1) ((gUp_cu (by decide)).trans (congrArg (fun z => gUp z 30 7 z1) ((gUp_cr (by decide)).trans (congrArg (fun z => gUr z 32 P1) gUp_row)))) ?_
                  refine w_aload_n (pc' := 115) (i := 0) (by rfl) (by rfl) dX0_stepOn_114 rfl ?_
                  refine w_getS (pc' := 118) (q := 32) fg_X0_15 kd_30 sf_X0_2 gr_30_2 dX0_stepOn_115 rfl ?_
                  refine w_iload_n (pc' := 119) (i := 1) (by rfl) (by rfl) dX0_stepOn_118 rfl ?_
                  refine w_iconst (pc' := 120) (by decide) dX0_stepOn_119 rfl ?_
                  refine v_iadd (pc' := 121) (by omega) dX0_stepOn_120 rfl ?_
                  refine w_iload (pc' := 123) (by rfl) dX0_stepOn_121 rfl ?_
                  refine w_iast (pc' := 124) kd_32 (by omega) (by omega) dX0_stepOn_123 rfl ?_
                  refine Wp.heq (σ' := gUp (gUr (gUr σ 31 (updI T1 (σ 24 a) (w64 ((T1 (σ 24 a)) + ((P * (σ 25 a)) * 10000))))) 32 (updI P1 (2 + 1) (σ 24 a))) 30 7 z1) ((gUp_cu (by decide)).trans (congrArg (fun z => gUp z 30 7 z1) gUp_row)) ?_
                  refine w_iload (pc' := 126) (by rfl) dX0_stepOn_124 rfl ?_
                  refine w_aload_n (pc' := 127) (i := 0) (by rfl) (by rfl) dX0_stepOn_126 rfl ?_
                  refine v_getI (pc' := 130) (ji := 6) rfl fg_X0_58 kd_30 dX0_stepOn_127 rfl ?_
                  show Wp _ _ _ _ _ _ [gI (σ 30 6), gI (σ 24 a)]
                  refine w_icmp_ne (pc' := 133) (t := 142) dX0_stepOn_130 rfl rfl (fun c_130 => ?_) (fun c_130 => ?_)
                  · skip
                    refine w_aload_n (pc' := 143) (i := 0) (by rfl) (by rfl) dX0_stepOn_142 rfl ?_
                    refine w_dup (pc' := 144) dX0_stepOn_143 rfl ?_
                    refine v_getJ (pc' := 147) (ji := 7) rfl fg_X0_61 kd_30 dX0_stepOn_144 rfl ?_
                    show Wp _ _ _ _ _ _ [gJ z1, gR 30]
                    refine w_lconst (n := 1) (pc' := 148) (by decide) (by decide) dX0_stepOn_147 rfl ?_
                    refine w_iload (pc' := 150) (by rfl) dX0_stepOn_148 rfl ?_
                    refine w_lshl (pc' := 151) dX0_stepOn_150 rfl ?_
                    refine w_lor (pc' := 152) dX0_stepOn_151 rfl ?_
                    refine v_putJ (pc' := 155) (ji := 7) rfl fp_X0_61 kd_30 sf_X0_7 dX0_stepOn_152 rfl ?_
                    refine Wp.heq (σ' := gUp (gUr (gUr σ 31 (updI T1 (σ 24 a) (w64 ((T1 (σ 24 a)) + ((P * (σ 25 a)) * 10000))))) 32 (updI P1 (2 + 1) (σ 24 a))) 30 7 (gB64 (fun a b => a ||| b) z1 (gS64 (fun a b => a <<< b) 1 (σ 24 a)))) gUp_same ?_
                    refine w_aload_n (pc' := 156) (i := 0) (by rfl) (by rfl) dX0_stepOn_155 rfl ?_
                    refine w_iload_n (pc' := 157) (i := 1) (by rfl) (by rfl) dX0_stepOn_156 rfl ?_
                    refine w_iconst (pc' := 158) (by decide) dX0_stepOn_157 rfl ?_
                    refine v_iadd (pc' := 159) (by omega) dX0_stepOn_158 rfl ?_
                    refine w_lload (pc' := 161) (by rfl) dX0_stepOn_159 rfl ?_
                    refine w_callS (pc' := 164) (d' := 2) (av := [gR 30, gI (2 + 1), gJ ((P * (σ 25 a)) * 10000)]) ms_mX0_stepOn st_mX0_stepOn lk_X0_66 rfl rfl (Nat.le_of_ble_eq_true rfl) (Nat.le_of_ble_eq_true rfl) dX0_stepOn_161 rfl (k_step1 (A := A) hA hp hgl (updI T1 (σ 24 a) (w64 ((T1 (σ 24 a)) + ((P * (σ 25 a)) * 10000)))) (updI P1 (2 + 1) (σ 24 a)) (gB64 (fun a b => a ||| b) z1 (gS64 (fun a b => a <<< b) 1 (σ 24 a))) (P * (σ 25 a)) (fun u => vis u || decide (u = σ 24 a)) (by have := mulb hP.1 hP.2 (hpa.1) (hpa.2); omega) (by rw [updE (by decide)]; omega) hT1 hv1) (fun v_161 σ_161 q_161 => ?_)
                    obtain ⟨rfl, T2, P2, z2, rfl, hT2, hP2, hz2⟩ := q_161
                    show Wp _ _ _ _ _ _ []
                    refine w_aload_n (pc' := 165) (i := 0) (by rfl) (by rfl) dX0_stepOn_164 rfl ?_
                    refine w_dup (pc' := 166) dX0_stepOn_165 rfl ?_
                    refine v_getJ (pc' := 169) (ji := 7) rfl fg_X0_61 kd_30 dX0_stepOn_166 rfl ?_
                    show Wp _ _ _ _ _ _ [gJ z2, gR 30]
                    refine w_lconst (n := 1) (pc' := 170) (by decide) (by decide) dX0_stepOn_169 rfl ?_
                    refine w_iload (pc' := 172) (by rfl) dX0_stepOn_170 rfl ?_
                    refine w_lshl (pc' := 173) dX0_stepOn_172 rfl ?_
                    refine w_ldc2 (pc' := 176) (by decide) ct_X0_89 dX0_stepOn_173 rfl ?_
                    refine w_lxor (pc' := 177) dX0_stepOn_176 rfl ?_
                    refine w_land (pc' := 178) dX0_stepOn_177 rfl ?_
                    refine v_putJ (pc' := 181) (ji := 7) rfl fp_X0_61 kd_30 sf_X0_7 dX0_stepOn_178 rfl ?_
                    refine Wp.heq (σ' := gUp (gUr (gUr σ 31 T2) 32 P2) 30 7 (gB64 (fun a b => a &&& b) z2 (gB64 (fun a b => a ^^^ b) (gS64 (fun a b => a <<< b) 1 (σ 24 a)) (-1)))) gUp_same ?_
                    refine v_iinc (pc' := 184) (x := a) (ls' := [gR 30, gI 2, gJ (P * 100000000), gX 1, gI (PP 2), gI (σ 23 ((PP 2) + 1)), gI (a + 1), gI (σ 24 a), gJ ((P * (σ 25 a)) * 10000), gX 1]) (by omega) (by decide) (by rfl) (by rfl) dX0_stepOn_181 rfl ?_
                    refine w_goto (pc' := 40) dX0_stepOn_184 rfl ?_
                    refine Wp.lose (ls' := [gR 30, gI 2, gJ (P * 100000000), gX 1, gI (PP 2), gI (σ 23 ((PP 2) + 1)), gI (a + 1), gX 1, gX 1, gX 1]) ⟨.inr rfl, ⟨.inr rfl, ⟨.inr rfl, ⟨.inr rfl, ⟨.inr rfl, ⟨.inr rfl, ⟨.inr rfl, ⟨.inl rfl, ⟨.inl rfl, ⟨.inr rfl, trivial⟩⟩⟩⟩⟩⟩⟩⟩⟩⟩ ?_
                    have ea : σ 23 (PP 2) + (a - σ 23 (PP 2)) = a := by omega
                    have en : (a + 1 - σ 23 (PP 2)).toNat = (a - σ 23 (PP 2)).toNat + 1 := by omega
                    have ez : ((a - σ 23 (PP 2)).toNat : Int) = a - σ 23 (PP 2) := by omega
                    have es : ∀ f, sumI (fun j => σ 25 (σ 23 (PP 2) + j) * hW A 1 vis (σ 24 (σ 23 (PP 2) + j)) f) (a + 1 - σ 23 (PP 2)).toNat = sumI (fun j => σ 25 (σ 23 (PP 2) + j) * hW A 1 vis (σ 24 (σ 23 (PP 2) + j)) f) (a - σ 23 (PP 2)).toNat + σ 25 a * hW A 1 vis (σ 24 a) f := fun f => by
                      rw [show a + 1 - σ 23 (PP 2) = a - σ 23 (PP 2) + 1 by omega, sumI_s (by omega), ea]
                    exact ih_40 _ (by omega) (a + 1) T2 P2 (gB64 (fun a b => a &&& b) z2 (gB64 (fun a b => a ^^^ b) (gS64 (fun a b => a <<< b) 1 (σ 24 a)) (-1))) rfl (by omega) (by omega) (by intro f x w; rw [es f]; first | (exfalso; omega) | (rw [show hW A 1 vis (σ 24 a) f = 0 from if_pos ((hz (σ 24 a) (by omega) (by omega)).mp (cmpB.mp c_81)), Int.mul_zero, Int.add_zero]; exact ht f x w) | (rw [hT2 f x w, updE (j := 3) (i := 2+1) (by decide)]; exact stepT (k := 1) (c := 10000) hv0 (by decide) (ht f x w) (ht _ (by omega) (by omega)))) (by first | exact hpp | (exfalso; omega) | (intro i x w; rw [hP2 i x (by omega), updI_ne (by omega)]; exact hpp i x w)) (by first | exact hz | (exfalso; omega) | (intro u x w; rw [bitI_clear (by omega) (by omega) x (by omega), hz2 u x w]; simp only [Bool.or_eq_true, decide_eq_true_eq]; constructor; (rintro ⟨h | h, h2⟩; exact h; exact absurd h h2); (intro h; refine ⟨Or.inl h, fun e => ?_⟩; rw [e] at h; exact hv0 h)))
                  · skip
                    exfalso; omega
      exact hl_40 _ (σ 23 (PP 2)) TT PP z rfl (by omega) (by omega) (by intro f x w; rw [Int.sub_self]; show TT f = w64 (TT f + P * 0); rw [Int.mul_zero, Int.add_zero]; exact (w64_id (hT f x w)).symm) (by intro i x w; rfl) (by exact hv)
    · skip
      exact absurd c_6 (by decide)
set_option maxHeartbeats 4000000 in
theorem k_step3 {σ : gH} {A : Int → Int → Int} (hA : ARW (σ 23) (σ 24) (σ 25) A) (hp : ∀ c f, 0 ≤ A c f ∧ A c f ≤ 10000) (hgl : σ 30 6 = -1) (TT PP : Int → Int) (z P : Int) (vis : Int → Bool) (hP : 0 ≤ P ∧ P ≤ 10000) (hy : 0 ≤ PP 1 ∧ PP 1 < 60) (hT : ∀ f, 0 ≤ f → f < 60 → gi64 (TT f)) (hv : ∀ u, 0 ≤ u → u < 60 → (bitI z u ↔ vis u = true)) : Mt mX0_stepOn 4 [gR 30, gI 1, gJ (P * 1000000000000)] (gUp (gUr (gUr σ 31 TT) 32 PP) 30 7 z) (fun v σ' => v = gX 1 ∧ ∃ T_ P_ z_, σ' = gUp (gUr (gUr σ 31 T_) 32 P_) 30 7 z_ ∧ (∀ f, 0 ≤ f → f < 60 → T_ f = w64 (TT f + P * pS A 3 vis (PP 1) f)) ∧ (∀ i, 0 ≤ i → i ≤ 1 → P_ i = PP i) ∧ ∀ u, 0 ≤ u → u < 60 → (bitI z_ u ↔ vis u = true)) := by
  refine Mt.walk (ls := [gR 30, gI 1, gJ (P * 1000000000000), gX 1, gX 1, gX 1, gX 1, gX 1, gX 1, gX 1]) pn_X0 rfl (fun _ _ h => by cases h.1) (Nat.le_of_ble_eq_true rfl) rfl ?_
  refine w_iload_n (pc' := 1) (i := 1) (by rfl) (by rfl) dX0_stepOn_0 rfl ?_
  refine w_if_lt (pc' := 4) (t := 9) dX0_stepOn_1 rfl rfl (fun c_1 => ?_) (fun c_1 => ?_)
  · skip
    exact absurd c_1 (by decide)
  · skip
    refine w_iload_n (pc' := 5) (i := 1) (by rfl) (by rfl) dX0_stepOn_4 rfl ?_
    refine w_iconst (pc' := 6) (by decide) dX0_stepOn_5 rfl ?_
    refine w_icmp_lt (pc' := 9) (t := 10) dX0_stepOn_6 rfl rfl (fun c_6 => ?_) (fun c_6 => ?_)
    · skip
      refine w_aload_n (pc' := 11) (i := 0) (by rfl) (by rfl) dX0_stepOn_10 rfl ?_
      refine w_getS (pc' := 14) (q := 32) fg_X0_15 kd_30 sf_X0_2 gr_30_2 dX0_stepOn_11 rfl ?_
      refine w_iload_n (pc' := 15) (i := 1) (by rfl) (by rfl) dX0_stepOn_14 rfl ?_
      refine w_iald (pc' := 16) kd_32 (by omega) (by omega) dX0_stepOn_15 rfl ?_
      show Wp _ _ _ _ _ _ [gI (PP 1)]
      refine w_istore (pc' := 18) (ls' := [gR 30, gI 1, gJ (P * 1000000000000), gX 1, gI (PP 1), gX 1, gX 1, gX 1, gX 1, gX 1]) (by decide) (by rfl) dX0_stepOn_16 rfl ?_
      refine w_aload_n (pc' := 19) (i := 0) (by rfl) (by rfl) dX0_stepOn_18 rfl ?_
      refine w_getS (pc' := 22) (q := 14) fg_X0_22 kd_30 sf_X0_0 gr_30_0 dX0_stepOn_19 rfl ?_
      refine w_iload (pc' := 24) (by rfl) dX0_stepOn_22 rfl ?_
      refine v_callVE (pc' := 27) (st' := [gI (σ 23 ((PP 1) + 1))]) (d' := 0) (av := [gI (PP 1)]) mi_mX7_pastArrows lk_X0_70 rfl ci_X7 kd_14 rfl (Nat.le_of_ble_eq_true rfl) (Nat.le_of_ble_eq_true rfl) dX0_stepOn_24 rfl rfl (k_pastArrows (gUp (gUr (gUr σ 31 TT) 32 PP) 30 7 z) (PP 1) (by omega)) ?_
      refine w_istore (pc' := 29) (ls' := [gR 30, gI 1, gJ (P * 1000000000000), gX 1, gI (PP 1), gI (σ 23 ((PP 1) + 1)), gX 1, gX 1, gX 1, gX 1]) (by decide) (by rfl) dX0_stepOn_27 rfl ?_
      refine w_aload_n (pc' := 30) (i := 0) (by rfl) (by rfl) dX0_stepOn_29 rfl ?_
      refine w_getS (pc' := 33) (q := 14) fg_X0_22 kd_30 sf_X0_0 gr_30_0 dX0_stepOn_30 rfl ?_
      refine w_iload (pc' := 35) (by rfl) dX0_stepOn_33 rfl ?_
      refine v_callVE (pc' := 38) (st' := [gI (σ 23 (PP 1))]) (d' := 0) (av := [gI (PP 1)]) mi_mX7_firstArrow lk_X0_74 rfl ci_X7 kd_14 rfl (Nat.le_of_ble_eq_true rfl) (Nat.le_of_ble_eq_true rfl) dX0_stepOn_35 rfl rfl (k_firstArrow (gUp (gUr (gUr σ 31 TT) 32 PP) 30 7 z) (PP 1) (by omega)) ?_
      refine w_istore (pc' := 40) (ls' := [gR 30, gI 1, gJ (P * 1000000000000), gX 1, gI (PP 1), gI (σ 23 ((PP 1) + 1)), gI (σ 23 (PP 1)), gX 1, gX 1, gX 1]) (by decide) (by rfl) dX0_stepOn_38 rfl ?_
      have hS := hA.2.1 (PP 1) hy.1 hy.2
      have hl_40 : ∀ (mm : Nat) (a : Int) (T1 P1 : Int → Int) (z1 : Int), (σ 23 ((PP 1) + 1) - a).toNat = mm → (σ 23 (PP 1) ≤ a) → (a ≤ σ 23 ((PP 1) + 1)) → (∀ f, 0 ≤ f → f < 60 → T1 f = w64 (TT f + P * sumI (fun j => σ 25 (σ 23 (PP 1) + j) * hW A 2 vis (σ 24 (σ 23 (PP 1) + j)) f) (a - σ 23 (PP 1)).toNat)) → (∀ i, 0 ≤ i → i ≤ 1 → P1 i = PP i) → (∀ u, 0 ≤ u → u < 60 → (bitI z1 u ↔ vis u = true)) → Wp mX0_stepOn 4 (fun v σ' => v = gX 1 ∧ ∃ T_ P_ z_, σ' = gUp (gUr (gUr σ 31 T_) 32 P_) 30 7 z_ ∧ (∀ f, 0 ≤ f → f < 60 → T_ f = w64 (TT f + P * pS A 3 vis (PP 1) f)) ∧ (∀ i, 0 ≤ i → i ≤ 1 → P_ i = PP i) ∧ ∀ u, 0 ≤ u → u < 60 → (bitI z_ u ↔ vis u = true)) (gUp (gUr (gUr σ 31 T1) 32 P1) 30 7 z1) 40 [gR 30, gI 1, gJ (P * 1000000000000), gX 1, gI (PP 1), gI (σ 23 ((PP 1) + 1)), gI a, gX 1, gX 1, gX 1] [] := by
        intro m_40
        induction m_40 using Nat.strongRecOn with
        | _ m_40 ih_40 =>
          intro a T1 P1 z1 hmeas_40 h0 h1 ht hpp hz
          have hS := hA.2.1 (PP 1) hy.1 hy.2
          have har := fun h : a < σ 23 ((PP 1) + 1) => hA.2.2.1 (PP 1) hy.1 hy.2 a h0 h
          have hpa := hp (PP 1) (σ 24 a)
          have hpe : a < σ 23 ((PP 1) + 1) → σ 25 a = A (PP 1) (σ 24 a) := fun h => (har h).2.2.1
          refine w_iload (pc' := 42) (by rfl) dX0_stepOn_40 rfl ?_
          refine w_iload (pc' := 44) (by rfl) dX0_stepOn_42 rfl ?_
          refine w_icmp_ge (pc' := 47) (t := 187) dX0_stepOn_44 rfl rfl (fun c_44 => ?_) (fun c_44 => ?_)
          · skip
            refine w_return rfl dX0_stepOn_187 ?_
            refine ⟨rfl, T1, P1, z1, rfl, fun f x w => ?_, hpp, hz⟩
            rw [ht f x w, show a = σ 23 ((PP 1) + 1) by omega, arr_sum hA hy.1 hy.2 (fun z => hW A 2 vis z f)]
            rfl
          · skip
            refine w_aload_n (pc' := 48) (i := 0) (by rfl) (by rfl) dX0_stepOn_47 rfl ?_
            refine w_getS (pc' := 51) (q := 14) fg_X0_22 kd_30 sf_X0_0 gr_30_0 dX0_stepOn_48 rfl ?_
            refine w_iload (pc' := 53) (by rfl) dX0_stepOn_51 rfl ?_
            refine v_callVE (pc' := 56) (st' := [gI (σ 24 a)]) (d' := 0) (av := [gI a]) mi_mX7_targetOf lk_X0_77 rfl ci_X7 kd_14 rfl (Nat.le_of_ble_eq_true rfl) (Nat.le_of_ble_eq_true rfl) dX0_stepOn_53 rfl rfl (k_targetOf (gUp (gUr (gUr σ 31 T1) 32 P1) 30 7 z1) a (by omega)) ?_
            refine w_istore (pc' := 58) (ls' := [gR 30, gI 1, gJ (P * 1000000000000), gX 1, gI (PP 1), gI (σ 23 ((PP 1) + 1)), gI a, gI (σ 24 a), gX 1, gX 1]) (by decide) (by rfl) dX0_stepOn_56 rfl ?_
            refine w_iload (pc' := 60) (by rfl) dX0_stepOn_58 rfl ?_
            refine w_if_lt (pc' := 63) (t := 181) dX0_stepOn_60 rfl rfl (fun c_60 => ?_) (fun c_60 => ?_)
            · skip
              refine v_iinc (pc' := 184) (x := a) (ls' := [gR 30, gI 1, gJ (P * 1000000000000), gX 1, gI (PP 1), gI (σ 23 ((PP 1) + 1)), gI (a + 1), gI (σ 24 a), gX 1, gX 1]) (by omega) (by decide) (by rfl) (by rfl) dX0_stepOn_181 rfl ?_
              refine w_goto (pc' := 40) dX0_stepOn_184 rfl ?_
              refine Wp.lose (ls' := [gR 30, gI 1, gJ (P * 1000000000000), gX 1, gI (PP 1), gI (σ 23 ((PP 1) + 1)), gI (a + 1), gX 1, gX 1, gX 1]) ⟨.inr rfl, ⟨.inr rfl, ⟨.inr rfl, ⟨.inr rfl, ⟨.inr rfl, ⟨.inr rfl, ⟨.inr rfl, ⟨.inl rfl, ⟨.inr rfl, ⟨.inr rfl, trivial⟩⟩⟩⟩⟩⟩⟩⟩⟩⟩ ?_
              have ea : σ 23 (PP 1) + (a - σ 23 (PP 1)) = a := by omega
              have en : (a + 1 - σ 23 (PP 1)).toNat = (a - σ 23 (PP 1)).toNat + 1 := by omega
              have ez : ((a - σ 23 (PP 1)).toNat : Int) = a - σ 23 (PP 1) := by omega
              have es : ∀ f, sumI (fun j => σ 25 (σ 23 (PP 1) + j) * hW A 2 vis (σ 24 (σ 23 (PP 1) + j)) f) (a + 1 - σ 23 (PP 1)).toNat = sumI (fun j => σ 25 (σ 23 (PP 1) + j) * hW A 2 vis (σ 24 (σ 23 (PP 1) + j)) f) (a - σ 23 (PP 1)).toNat + σ 25 a * hW A 2 vis (σ 24 a) f := fun f => by
                rw [show a + 1 - σ 23 (PP 1) = a - σ 23 (PP 1) + 1 by omega, sumI_s (by omega), ea]
              exact ih_40 _ (by omega) (a + 1) T1 P1 z1 rfl (by omega) (by omega) (by intro f x w; rw [es f]; first | (exfalso; omega) | (rw [show hW A 2 vis (σ 24 a) f = 0 from if_pos ((hz (σ 24 a) (by omega) (by omega)).mp (cmpB.mp c_81)), Int.mul_zero, Int.add_zero]; exact ht f x w) | (rw [hT2 f x w, updE (j := 2) (i := 1+1) (by decide)]; exact stepT (k := 2) (c := 100000000) hv0 (by decide) (ht f x w) (ht _ (by omega) (by omega)))) (by first | exact hpp | (exfalso; omega) | (intro i x w; rw [hP2 i x (by omega), updI_ne (by omega)]; exact hpp i x w)) (by first | exact hz | (exfalso; omega) | (intro u x w; rw [bitI_clear (by omega) (by omega) x (by omega), hz2 u x w]; simp only [Bool.or_eq_true, decide_eq_true_eq]; constructor; (rintro ⟨h | h, h2⟩; exact h; exact absurd h h2); (intro h; refine ⟨Or.inl h, fun e => ?_⟩; rw [e] at h; exact hv0 h)))
            · skip
              refine w_iload (pc' := 65) (by rfl) dX0_stepOn_63 rfl ?_
              refine w_bipush (pc' := 67) (by decide) (by decide) dX0_stepOn_65 rfl ?_
              refine w_icmp_ge (pc' := 70) (t := 181) dX0_stepOn_67 rfl rfl (fun c_67 => ?_) (fun c_67 => ?_)
              · skip
                refine v_iinc (pc' := 184) (x := a) (ls' := [gR 30, gI 1, gJ (P * 1000000000000), gX 1, gI (PP 1), gI (σ 23 ((PP 1) + 1)), gI (a + 1), gI (σ 24 a), gX 1, gX 1]) (by omega) (by decide) (by rfl) (by rfl) dX0_stepOn_181 rfl ?_
                refine w_goto (pc' := 40) dX0_stepOn_184 rfl ?_
                refine Wp.lose (ls' := [gR 30, gI 1, gJ (P * 1000000000000), gX 1, gI (PP 1), gI (σ 23 ((PP 1) + 1)), gI (a + 1), gX 1, gX 1, gX 1]) ⟨.inr rfl, ⟨.inr rfl, ⟨.inr rfl, ⟨.inr rfl, ⟨.inr rfl, ⟨.inr rfl, ⟨.inr rfl, ⟨.inl rfl, ⟨.inr rfl, ⟨.inr rfl, trivial⟩⟩⟩⟩⟩⟩⟩⟩⟩⟩ ?_
                have ea : σ 23 (PP 1) + (a - σ 23 (PP 1)) = a := by omega
                have en : (a + 1 - σ 23 (PP 1)).toNat = (a - σ 23 (PP 1)).toNat + 1 := by omega
                have ez : ((a - σ 23 (PP 1)).toNat : Int) = a - σ 23 (PP 1) := by omega
                have es : ∀ f, sumI (fun j => σ 25 (σ 23 (PP 1) + j) * hW A 2 vis (σ 24 (σ 23 (PP 1) + j)) f) (a + 1 - σ 23 (PP 1)).toNat = sumI (fun j => σ 25 (σ 23 (PP 1) + j) * hW A 2 vis (σ 24 (σ 23 (PP 1) + j)) f) (a - σ 23 (PP 1)).toNat + σ 25 a * hW A 2 vis (σ 24 a) f := fun f => by
                  rw [show a + 1 - σ 23 (PP 1) = a - σ 23 (PP 1) + 1 by omega, sumI_s (by omega), ea]
                exact ih_40 _ (by omega) (a + 1) T1 P1 z1 rfl (by omega) (by omega) (by intro f x w; rw [es f]; first | (exfalso; omega) | (rw [show hW A 2 vis (σ 24 a) f = 0 from if_pos ((hz (σ 24 a) (by omega) (by omega)).mp (cmpB.mp c_81)), Int.mul_zero, Int.add_zero]; exact ht f x w) | (rw [hT2 f x w, updE (j := 2) (i := 1+1) (by decide)]; exact stepT (k := 2) (c := 100000000) hv0 (by decide) (ht f x w) (ht _ (by omega) (by omega)))) (by first | exact hpp | (exfalso; omega) | (intro i x w; rw [hP2 i x (by omega), updI_ne (by omega)]; exact hpp i x w)) (by first | exact hz | (exfalso; omega) | (intro u x w; rw [bitI_clear (by omega) (by omega) x (by omega), hz2 u x w]; simp only [Bool.or_eq_true, decide_eq_true_eq]; constructor; (rintro ⟨h | h, h2⟩; exact h; exact absurd h h2); (intro h; refine ⟨Or.inl h, fun e => ?_⟩; rw [e] at h; exact hv0 h)))
              · skip
                refine w_aload_n (pc' := 71) (i := 0) (by rfl) (by rfl) dX0_stepOn_70 rfl ?_
                refine v_getJ (pc' := 74) (ji := 7) rfl fg_X0_61 kd_30 dX0_stepOn_71 rfl ?_
                show Wp _ _ _ _ _ _ [gJ z1]
                refine w_iload (pc' := 76) (by rfl) dX0_stepOn_74 rfl ?_
                refine w_lshr (pc' := 77) dX0_stepOn_76 rfl ?_
                refine w_lconst (n := 1) (pc' := 78) (by decide) (by decide) dX0_stepOn_77 rfl ?_
                refine w_land (pc' := 79) dX0_stepOn_78 rfl ?_
                refine w_lconst (n := 0) (pc' := 80) (by decide) (by decide) dX0_stepOn_79 rfl ?_
                refine w_lcmp (pc' := 81) dX0_stepOn_80 rfl ?_
                refine w_if_ne (pc' := 84) (t := 181) dX0_stepOn_81 rfl rfl (fun c_81 => ?_) (fun c_81 => ?_)
                · skip
                  refine v_iinc (pc' := 184) (x := a) (ls' := [gR 30, gI 1, gJ (P * 1000000000000), gX 1, gI (PP 1), gI (σ 23 ((PP 1) + 1)), gI (a + 1), gI (σ 24 a), gX 1, gX 1]) (by omega) (by decide) (by rfl) (by rfl) dX0_stepOn_181 rfl ?_
                  refine w_goto (pc' := 40) dX0_stepOn_184 rfl ?_
                  refine Wp.lose (ls' := [gR 30, gI 1, gJ (P * 1000000000000), gX 1, gI (PP 1), gI (σ 23 ((PP 1) + 1)), gI (a + 1), gX 1, gX 1, gX 1]) ⟨.inr rfl, ⟨.inr rfl, ⟨.inr rfl, ⟨.inr rfl, ⟨.inr rfl, ⟨.inr rfl, ⟨.inr rfl, ⟨.inl rfl, ⟨.inr rfl, ⟨.inr rfl, trivial⟩⟩⟩⟩⟩⟩⟩⟩⟩⟩ ?_
                  have ea : σ 23 (PP 1) + (a - σ 23 (PP 1)) = a := by omega
                  have en : (a + 1 - σ 23 (PP 1)).toNat = (a - σ 23 (PP 1)).toNat + 1 := by omega
                  have ez : ((a - σ 23 (PP 1)).toNat : Int) = a - σ 23 (PP 1) := by omega
                  have es : ∀ f, sumI (fun j => σ 25 (σ 23 (PP 1) + j) * hW A 2 vis (σ 24 (σ 23 (PP 1) + j)) f) (a + 1 - σ 23 (PP 1)).toNat = sumI (fun j => σ 25 (σ 23 (PP 1) + j) * hW A 2 vis (σ 24 (σ 23 (PP 1) + j)) f) (a - σ 23 (PP 1)).toNat + σ 25 a * hW A 2 vis (σ 24 a) f := fun f => by
                    rw [show a + 1 - σ 23 (PP 1) = a - σ 23 (PP 1) + 1 by omega, sumI_s (by omega), ea]
                  exact ih_40 _ (by omega) (a + 1) T1 P1 z1 rfl (by omega) (by omega) (by intro f x w; rw [es f]; first | (exfalso; omega) | (rw [show hW A 2 vis (σ 24 a) f = 0 from if_pos ((hz (σ 24 a) (by omega) (by omega)).mp (cmpB.mp c_81)), Int.mul_zero, Int.add_zero]; exact ht f x w) | (rw [hT2 f x w, updE (j := 2) (i := 1+1) (by decide)]; exact stepT (k := 2) (c := 100000000) hv0 (by decide) (ht f x w) (ht _ (by omega) (by omega)))) (by first | exact hpp | (exfalso; omega) | (intro i x w; rw [hP2 i x (by omega), updI_ne (by omega)]; exact hpp i x w)) (by first | exact hz | (exfalso; omega) | (intro u x w; rw [bitI_clear (by omega) (by omega) x (by omega), hz2 u x w]; simp only [Bool.or_eq_true, decide_eq_true_eq]; constructor; (rintro ⟨h | h, h2⟩; exact h; exact absurd h h2); (intro h; refine ⟨Or.inl h, fun e => ?_⟩; rw [e] at h; exact hv0 h)))
                · skip
                  refine w_lload_n (pc' := 85) (i := 2) (by rfl) (by rfl) dX0_stepOn_84 rfl ?_
                  refine w_ldc2 (pc' := 88) (by decide) ct_X0_80 dX0_stepOn_85 rfl ?_
                  refine w_ldiv (pc' := 89) (by omega) dX0_stepOn_88 rfl ?_
                  refine Wp.stJ (y := P * 100000000) (show w64 ((P * 1000000000000).tdiv 10000) = P * 100000000 from divx (c := 100000000) hP.1 (by decide) (by omega)) ?_
                  refine w_aload_n (pc' := 90) (i := 0) (by rfl) (by rfl) dX0_stepOn_89 rfl ?_
                  refine w_getS (pc' := 93) (q := 14) fg_X0_22 kd_30 sf_X0_0 gr_30_0 dX0_stepOn_90 rfl ?_
                  refine w_iload (pc' := 95) (by rfl) dX0_stepOn_93 rfl ?_
                  refine v_callVE (pc' := 98) (st' := [gI (σ 25 a), gJ (P * 100000000)]) (d' := 0) (av := [gI a]) mi_mX7_partOn lk_X0_82 rfl ci_X7 kd_14 rfl (Nat.le_of_ble_eq_true rfl) (Nat.le_of_ble_eq_true rfl) dX0_stepOn_95 rfl rfl (k_partOn (gUp (gUr (gUr σ 31 T1) 32 P1) 30 7 z1) a (by omega)) ?_
                  refine w_i2l (pc' := 99) dX0_stepOn_98 rfl ?_
                  refine v_lmul (pc' := 100) (by have h9 := mulb (M := 10000) hP.1 hP.2 hpa.1 hpa.2; rw [← hpe (by omega)] at h9; have h8 : P * 100000000 * σ 25 a = (P * σ 25 a) * 100000000 := (by rw [Int.mul_assoc, Int.mul_comm 100000000, ← Int.mul_assoc]); rw [h8]; omega) dX0_stepOn_99 rfl ?_
                  refine Wp.stJ (y := (P * (σ 25 a)) * 100000000) (by rw [Int.mul_assoc, Int.mul_comm 100000000, ← Int.mul_assoc]) ?_
                  refine w_lstore (pc' := 102) (ls' := [gR 30, gI 1, gJ (P * 1000000000000), gX 1, gI (PP 1), gI (σ 23 ((PP 1) + 1)), gI a, gI (σ 24 a), gJ ((P * (σ 25 a)) * 100000000), gX 1]) (by decide) (by rfl) dX0_stepOn_100 rfl ?_
                  have hv0 : ¬ vis (σ 24 a) = true := fun h => by
                    have := (hz (σ 24 a) (by omega) (by omega)).mpr h
                    exact cmpB.mpr this c_81
                  rw [← hpe (by omega)] at hpa
                  have hT1 : ∀ f, 0 ≤ f → f < 60 → gi64 (updI T1 (σ 24 a) (w64 (T1 (σ 24 a) + P * σ 25 a * 100000000)) f) := fun f x w => by
                    unfold updI
                    split
                    · exact w64_in _
                    · rw [ht f x w]; exact w64_in _
                  have hv1 : ∀ u, 0 ≤ u → u < 60 → (bitI (gB64 (fun a b => a ||| b) z1 (gS64 (fun a b => a <<< b) 1 (σ 24 a))) u ↔ (fun u => vis u || decide (u = σ 24 a)) u = true) := fun u x w => by
                    rw [bitI_set (by omega) (by omega) x (by omega), hz u x w]
                    simp only [Bool.or_eq_true, decide_eq_true_eq]
                  refine w_aload_n (pc' := 103) (i := 0) (by rfl) (by rfl) dX0_stepOn_102 rfl ?_
                  refine w_getS (pc' := 106) (q := 31) fg_X0_9 kd_30 sf_X0_1 gr_30_1 dX0_stepOn_103 rfl ?_
                  refine w_iload (pc' := 108) (by rfl) dX0_stepOn_106 rfl ?_
                  refine w_dup2 (pc' := 109) dX0_stepOn_108 rfl ?_
                  refine w_lald (pc' := 110) kd_31 (by omega) (by omega) dX0_stepOn_109 rfl ?_
                  show Wp _ _ _ _ _ _ [gJ (T1 (σ 24 a)), gI (σ 24 a), gR 31]
                  refine w_lload (pc' := 112) (by rfl) dX0_stepOn_110 rfl ?_
                  refine w_ladd (pc' := 113) dX0_stepOn_112 rfl ?_
                  refine w_last (pc' := 114) kd_31 (by omega) (by omega) dX0_stepOn_113 rfl ?_
                  refine Wp.heq (σ' := gUp (gUr (gUr σ 31 (updI T1 (σ 24 a) (w64 ((T1 (σ 24 a)) + ((P * (σ 25 a)) * 100000000))))) 32 P1) 30 7 z1) ((gUp_cu (by decide)).trans (congrArg (fun z => gUp z 30 7 z1) ((gUp_cr (by decide)).trans (congrArg (fun z => gUr z 32 P1) gUp_row)))) ?_
                  refine w_aload_n (pc' := 115) (i := 0) (by rfl) (by rfl) dX0_stepOn_114 rfl ?_
                  refine w_getS (pc' := 118) (q := 32) fg_X0_15 kd_30 sf_X0_2 gr_30_2 dX0_stepOn_115 rfl ?_
                  refine w_iload_n (pc' := 119) (i := 1) (by rfl) (by rfl) dX0_stepOn_118 rfl ?_
                  refine w_iconst (pc' := 120) (by decide) dX0_stepOn_119 rfl ?_
                  refine v_iadd (pc' := 121) (by omega) dX0_stepOn_120 rfl ?_
                  refine w_iload (pc' := 123) (by rfl) dX0_stepOn_121 rfl ?_
                  refine w_iast (pc' := 124) kd_32 (by omega) (by omega) dX0_stepOn_123 rfl ?_
                  refine Wp.heq (σ' := gUp (gUr (gUr σ 31 (updI T1 (σ 24 a) (w64 ((T1 (σ 24 a)) + ((P * (σ 25 a)) * 100000000))))) 32 (updI P1 (1 + 1) (σ 24 a))) 30 7 z1) ((gUp_cu (by decide)).trans (congrArg (fun z => gUp z 30 7 z1) gUp_row)) ?_
                  refine w_iload (pc' := 126) (by rfl) dX0_stepOn_124 rfl ?_
                  refine w_aload_n (pc' := 127) (i := 0) (by rfl) (by rfl) dX0_stepOn_126 rfl ?_
                  refine v_getI (pc' := 130) (ji := 6) rfl fg_X0_58 kd_30 dX0_stepOn_127 rfl ?_
                  show Wp _ _ _ _ _ _ [gI (σ 30 6), gI (σ 24 a)]
                  refine w_icmp_ne (pc' := 133) (t := 142) dX0_stepOn_130 rfl rfl (fun c_130 => ?_) (fun c_130 => ?_)
                  · skip
                    refine w_aload_n (pc' := 143) (i := 0) (by rfl) (by rfl) dX0_stepOn_142 rfl ?_
                    refine w_dup (pc' := 144) dX0_stepOn_143 rfl ?_
                    refine v_getJ (pc' := 147) (ji := 7) rfl fg_X0_61 kd_30 dX0_stepOn_144 rfl ?_
                    show Wp _ _ _ _ _ _ [gJ z1, gR 30]
                    refine w_lconst (n := 1) (pc' := 148) (by decide) (by decide) dX0_stepOn_147 rfl ?_
                    refine w_iload (pc' := 150) (by rfl) dX0_stepOn_148 rfl ?_
                    refine w_lshl (pc' := 151) dX0_stepOn_150 rfl ?_
                    refine w_lor (pc' := 152) dX0_stepOn_151 rfl ?_
                    refine v_putJ (pc' := 155) (ji := 7) rfl fp_X0_61 kd_30 sf_X0_7 dX0_stepOn_152 rfl ?_
                    refine Wp.heq (σ' := gUp (gUr (gUr σ 31 (updI T1 (σ 24 a) (w64 ((T1 (σ 24 a)) + ((P * (σ 25 a)) * 100000000))))) 32 (updI P1 (1 + 1) (σ 24 a))) 30 7 (gB64 (fun a b => a ||| b) z1 (gS64 (fun a b => a <<< b) 1 (σ 24 a)))) gUp_same ?_
                    refine w_aload_n (pc' := 156) (i := 0) (by rfl) (by rfl) dX0_stepOn_155 rfl ?_
                    refine w_iload_n (pc' := 157) (i := 1) (by rfl) (by rfl) dX0_stepOn_156 rfl ?_
                    refine w_iconst (pc' := 158) (by decide) dX0_stepOn_157 rfl ?_
                    refine v_iadd (pc' := 159) (by omega) dX0_stepOn_158 rfl ?_
                    refine w_lload (pc' := 161) (by rfl) dX0_stepOn_159 rfl ?_
                    refine w_callS (pc' := 164) (d' := 3) (av := [gR 30, gI (1 + 1), gJ ((P * (σ 25 a)) * 100000000)]) ms_mX0_stepOn st_mX0_stepOn lk_X0_66 rfl rfl (Nat.le_of_ble_eq_true rfl) (Nat.le_of_ble_eq_true rfl) dX0_stepOn_161 rfl (k_step2 (A := A) hA hp hgl (updI T1 (σ 24 a) (w64 ((T1 (σ 24 a)) + ((P * (σ 25 a)) * 100000000)))) (updI P1 (1 + 1) (σ 24 a)) (gB64 (fun a b => a ||| b) z1 (gS64 (fun a b => a <<< b) 1 (σ 24 a))) (P * (σ 25 a)) (fun u => vis u || decide (u = σ 24 a)) (by have := mulb hP.1 hP.2 (hpa.1) (hpa.2); omega) (by rw [updE (by decide)]; omega) hT1 hv1) (fun v_161 σ_161 q_161 => ?_)
                    obtain ⟨rfl, T2, P2, z2, rfl, hT2, hP2, hz2⟩ := q_161
                    show Wp _ _ _ _ _ _ []
                    refine w_aload_n (pc' := 165) (i := 0) (by rfl) (by rfl) dX0_stepOn_164 rfl ?_
                    refine w_dup (pc' := 166) dX0_stepOn_165 rfl ?_
                    refine v_getJ (pc' := 169) (ji := 7) rfl fg_X0_61 kd_30 dX0_stepOn_166 rfl ?_
                    show Wp _ _ _ _ _ _ [gJ z2, gR 30]
                    refine w_lconst (n := 1) (pc' := 170) (by decide) (by decide) dX0_stepOn_169 rfl ?_
                    refine w_iload (pc' := 172) (by rfl) dX0_stepOn_170 rfl ?_
                    refine w_lshl (pc' := 173) dX0_stepOn_172 rfl ?_
                    refine w_ldc2 (pc' := 176) (by decide) ct_X0_89 dX0_stepOn_173 rfl ?_
                    refine w_lxor (pc' := 177) dX0_stepOn_176 rfl ?_
                    refine w_land (pc' := 178) dX0_stepOn_177 rfl ?_
                    refine v_putJ (pc' := 181) (ji := 7) rfl fp_X0_61 kd_30 sf_X0_7 dX0_stepOn_178 rfl ?_
                    refine Wp.heq (σ' := gUp (gUr (gUr σ 31 T2) 32 P2) 30 7 (gB64 (fun a b => a &&& b) z2 (gB64 (fun a b => a ^^^ b) (gS64 (fun a b => a <<< b) 1 (σ 24 a)) (-1)))) gUp_same ?_
                    refine v_iinc (pc' := 184) (x := a) (ls' := [gR 30, gI 1, gJ (P * 1000000000000), gX 1, gI (PP 1), gI (σ 23 ((PP 1) + 1)), gI (a + 1), gI (σ 24 a), gJ ((P * (σ 25 a)) * 100000000), gX 1]) (by omega) (by decide) (by rfl) (by rfl) dX0_stepOn_181 rfl ?_
                    refine w_goto (pc' := 40) dX0_stepOn_184 rfl ?_
                    refine Wp.lose (ls' := [gR 30, gI 1, gJ (P * 1000000000000), gX 1, gI (PP 1), gI (σ 23 ((PP 1) + 1)), gI (a + 1), gX 1, gX 1, gX 1]) ⟨.inr rfl, ⟨.inr rfl, ⟨.inr rfl, ⟨.inr rfl, ⟨.inr rfl, ⟨.inr rfl, ⟨.inr rfl, ⟨.inl rfl, ⟨.inl rfl, ⟨.inr rfl, trivial⟩⟩⟩⟩⟩⟩⟩⟩⟩⟩ ?_
                    have ea : σ 23 (PP 1) + (a - σ 23 (PP 1)) = a := by omega
                    have en : (a + 1 - σ 23 (PP 1)).toNat = (a - σ 23 (PP 1)).toNat + 1 := by omega
                    have ez : ((a - σ 23 (PP 1)).toNat : Int) = a - σ 23 (PP 1) := by omega
                    have es : ∀ f, sumI (fun j => σ 25 (σ 23 (PP 1) + j) * hW A 2 vis (σ 24 (σ 23 (PP 1) + j)) f) (a + 1 - σ 23 (PP 1)).toNat = sumI (fun j => σ 25 (σ 23 (PP 1) + j) * hW A 2 vis (σ 24 (σ 23 (PP 1) + j)) f) (a - σ 23 (PP 1)).toNat + σ 25 a * hW A 2 vis (σ 24 a) f := fun f => by
                      rw [show a + 1 - σ 23 (PP 1) = a - σ 23 (PP 1) + 1 by omega, sumI_s (by omega), ea]
                    exact ih_40 _ (by omega) (a + 1) T2 P2 (gB64 (fun a b => a &&& b) z2 (gB64 (fun a b => a ^^^ b) (gS64 (fun a b => a <<< b) 1 (σ 24 a)) (-1))) rfl (by omega) (by omega) (by intro f x w; rw [es f]; first | (exfalso; omega) | (rw [show hW A 2 vis (σ 24 a) f = 0 from if_pos ((hz (σ 24 a) (by omega) (by omega)).mp (cmpB.mp c_81)), Int.mul_zero, Int.add_zero]; exact ht f x w) | (rw [hT2 f x w, updE (j := 2) (i := 1+1) (by decide)]; exact stepT (k := 2) (c := 100000000) hv0 (by decide) (ht f x w) (ht _ (by omega) (by omega)))) (by first | exact hpp | (exfalso; omega) | (intro i x w; rw [hP2 i x (by omega), updI_ne (by omega)]; exact hpp i x w)) (by first | exact hz | (exfalso; omega) | (intro u x w; rw [bitI_clear (by omega) (by omega) x (by omega), hz2 u x w]; simp only [Bool.or_eq_true, decide_eq_true_eq]; constructor; (rintro ⟨h | h, h2⟩; exact h; exact absurd h h2); (intro h; refine ⟨Or.inl h, fun e => ?_⟩; rw [e] at h; exact hv0 h)))
                  · skip
                    exfalso; omega
      exact hl_40 _ (σ 23 (PP 1)) TT PP z rfl (by omega) (by omega) (by intro f x w; rw [Int.sub_self]; show TT f = w64 (TT f + P * 0); rw [Int.mul_zero, Int.add_zero]; exact (w64_id (hT f x w)).symm) (by intro i x w; rfl) (by exact hv)
    · skip
      exact absurd c_6 (by decide)
set_option maxHeartbeats 4000000 in
theorem k_step4 {σ : gH} {A : Int → Int → Int} (hA : ARW (σ 23) (σ 24) (σ 25) A) (hp : ∀ c f, 0 ≤ A c f ∧ A c f ≤ 10000) (hgl : σ 30 6 = -1) (TT PP : Int → Int) (z P : Int) (vis : Int → Bool) (hP : 0 ≤ P ∧ P ≤ 1) (hy : 0 ≤ PP 0 ∧ PP 0 < 60) (hT : ∀ f, 0 ≤ f → f < 60 → gi64 (TT f)) (hv : ∀ u, 0 ≤ u → u < 60 → (bitI z u ↔ vis u = true)) : Mt mX0_stepOn 5 [gR 30, gI 0, gJ (P * 10000000000000000)] (gUp (gUr (gUr σ 31 TT) 32 PP) 30 7 z) (fun v σ' => v = gX 1 ∧ ∃ T_ P_ z_, σ' = gUp (gUr (gUr σ 31 T_) 32 P_) 30 7 z_ ∧ (∀ f, 0 ≤ f → f < 60 → T_ f = w64 (TT f + P * pS A 4 vis (PP 0) f)) ∧ (∀ i, 0 ≤ i → i ≤ 0 → P_ i = PP i) ∧ ∀ u, 0 ≤ u → u < 60 → (bitI z_ u ↔ vis u = true)) := by
  refine Mt.walk (ls := [gR 30, gI 0, gJ (P * 10000000000000000), gX 1, gX 1, gX 1, gX 1, gX 1, gX 1, gX 1]) pn_X0 rfl (fun _ _ h => by cases h.1) (Nat.le_of_ble_eq_true rfl) rfl ?_
  refine w_iload_n (pc' := 1) (i := 1) (by rfl) (by rfl) dX0_stepOn_0 rfl ?_
  refine w_if_lt (pc' := 4) (t := 9) dX0_stepOn_1 rfl rfl (fun c_1 => ?_) (fun c_1 => ?_)
  · skip
    exact absurd c_1 (by decide)
  · skip
    refine w_iload_n (pc' := 5) (i := 1) (by rfl) (by rfl) dX0_stepOn_4 rfl ?_
    refine w_iconst (pc' := 6) (by decide) dX0_stepOn_5 rfl ?_
    refine w_icmp_lt (pc' := 9) (t := 10) dX0_stepOn_6 rfl rfl (fun c_6 => ?_) (fun c_6 => ?_)
    · skip
      refine w_aload_n (pc' := 11) (i := 0) (by rfl) (by rfl) dX0_stepOn_10 rfl ?_
      refine w_getS (pc' := 14) (q := 32) fg_X0_15 kd_30 sf_X0_2 gr_30_2 dX0_stepOn_11 rfl ?_
      refine w_iload_n (pc' := 15) (i := 1) (by rfl) (by rfl) dX0_stepOn_14 rfl ?_
      refine w_iald (pc' := 16) kd_32 (by omega) (by omega) dX0_stepOn_15 rfl ?_
      show Wp _ _ _ _ _ _ [gI (PP 0)]
      refine w_istore (pc' := 18) (ls' := [gR 30, gI 0, gJ (P * 10000000000000000), gX 1, gI (PP 0), gX 1, gX 1, gX 1, gX 1, gX 1]) (by decide) (by rfl) dX0_stepOn_16 rfl ?_
      refine w_aload_n (pc' := 19) (i := 0) (by rfl) (by rfl) dX0_stepOn_18 rfl ?_
      refine w_getS (pc' := 22) (q := 14) fg_X0_22 kd_30 sf_X0_0 gr_30_0 dX0_stepOn_19 rfl ?_
      refine w_iload (pc' := 24) (by rfl) dX0_stepOn_22 rfl ?_
      refine v_callVE (pc' := 27) (st' := [gI (σ 23 ((PP 0) + 1))]) (d' := 0) (av := [gI (PP 0)]) mi_mX7_pastArrows lk_X0_70 rfl ci_X7 kd_14 rfl (Nat.le_of_ble_eq_true rfl) (Nat.le_of_ble_eq_true rfl) dX0_stepOn_24 rfl rfl (k_pastArrows (gUp (gUr (gUr σ 31 TT) 32 PP) 30 7 z) (PP 0) (by omega)) ?_
      refine w_istore (pc' := 29) (ls' := [gR 30, gI 0, gJ (P * 10000000000000000), gX 1, gI (PP 0), gI (σ 23 ((PP 0) + 1)), gX 1, gX 1, gX 1, gX 1]) (by decide) (by rfl) dX0_stepOn_27 rfl ?_
      refine w_aload_n (pc' := 30) (i := 0) (by rfl) (by rfl) dX0_stepOn_29 rfl ?_
      refine w_getS (pc' := 33) (q := 14) fg_X0_22 kd_30 sf_X0_0 gr_30_0 dX0_stepOn_30 rfl ?_
      refine w_iload (pc' := 35) (by rfl) dX0_stepOn_33 rfl ?_
      refine v_callVE (pc' := 38) (st' := [gI (σ 23 (PP 0))]) (d' := 0) (av := [gI (PP 0)]) mi_mX7_firstArrow lk_X0_74 rfl ci_X7 kd_14 rfl (Nat.le_of_ble_eq_true rfl) (Nat.le_of_ble_eq_true rfl) dX0_stepOn_35 rfl rfl (k_firstArrow (gUp (gUr (gUr σ 31 TT) 32 PP) 30 7 z) (PP 0) (by omega)) ?_
      refine w_istore (pc' := 40) (ls' := [gR 30, gI 0, gJ (P * 10000000000000000), gX 1, gI (PP 0), gI (σ 23 ((PP 0) + 1)), gI (σ 23 (PP 0)), gX 1, gX 1, gX 1]) (by decide) (by rfl) dX0_stepOn_38 rfl ?_
      have hS := hA.2.1 (PP 0) hy.1 hy.2
      have hl_40 : ∀ (mm : Nat) (a : Int) (T1 P1 : Int → Int) (z1 : Int), (σ 23 ((PP 0) + 1) - a).toNat = mm → (σ 23 (PP 0) ≤ a) → (a ≤ σ 23 ((PP 0) + 1)) → (∀ f, 0 ≤ f → f < 60 → T1 f = w64 (TT f + P * sumI (fun j => σ 25 (σ 23 (PP 0) + j) * hW A 3 vis (σ 24 (σ 23 (PP 0) + j)) f) (a - σ 23 (PP 0)).toNat)) → (∀ i, 0 ≤ i → i ≤ 0 → P1 i = PP i) → (∀ u, 0 ≤ u → u < 60 → (bitI z1 u ↔ vis u = true)) → Wp mX0_stepOn 5 (fun v σ' => v = gX 1 ∧ ∃ T_ P_ z_, σ' = gUp (gUr (gUr σ 31 T_) 32 P_) 30 7 z_ ∧ (∀ f, 0 ≤ f → f < 60 → T_ f = w64 (TT f + P * pS A 4 vis (PP 0) f)) ∧ (∀ i, 0 ≤ i → i ≤ 0 → P_ i = PP i) ∧ ∀ u, 0 ≤ u → u < 60 → (bitI z_ u ↔ vis u = true)) (gUp (gUr (gUr σ 31 T1) 32 P1) 30 7 z1) 40 [gR 30, gI 0, gJ (P * 10000000000000000), gX 1, gI (PP 0), gI (σ 23 ((PP 0) + 1)), gI a, gX 1, gX 1, gX 1] [] := by
        intro m_40
        induction m_40 using Nat.strongRecOn with
        | _ m_40 ih_40 =>
          intro a T1 P1 z1 hmeas_40 h0 h1 ht hpp hz
          have hS := hA.2.1 (PP 0) hy.1 hy.2
          have har := fun h : a < σ 23 ((PP 0) + 1) => hA.2.2.1 (PP 0) hy.1 hy.2 a h0 h
          have hpa := hp (PP 0) (σ 24 a)
          have hpe : a < σ 23 ((PP 0) + 1) → σ 25 a = A (PP 0) (σ 24 a) := fun h => (har h).2.2.1
          refine w_iload (pc' := 42) (by rfl) dX0_stepOn_40 rfl ?_
          refine w_iload (pc' := 44) (by rfl) dX0_stepOn_42 rfl ?_
          refine w_icmp_ge (pc' := 47) (t := 187) dX0_stepOn_44 rfl rfl (fun c_44 => ?_) (fun c_44 => ?_)
          · skip
            refine w_return rfl dX0_stepOn_187 ?_
            refine ⟨rfl, T1, P1, z1, rfl, fun f x w => ?_, hpp, hz⟩
            rw [ht f x w, show a = σ 23 ((PP 0) + 1) by omega, arr_sum hA hy.1 hy.2 (fun z => hW A 3 vis z f)]
            rfl
          · skip
            refine w_aload_n (pc' := 48) (i := 0) (by rfl) (by rfl) dX0_stepOn_47 rfl ?_
            refine w_getS (pc' := 51) (q := 14) fg_X0_22 kd_30 sf_X0_0 gr_30_0 dX0_stepOn_48 rfl ?_
            refine w_iload (pc' := 53) (by rfl) dX0_stepOn_51 rfl ?_
            refine v_callVE (pc' := 56) (st' := [gI (σ 24 a)]) (d' := 0) (av := [gI a]) mi_mX7_targetOf lk_X0_77 rfl ci_X7 kd_14 rfl (Nat.le_of_ble_eq_true rfl) (Nat.le_of_ble_eq_true rfl) dX0_stepOn_53 rfl rfl (k_targetOf (gUp (gUr (gUr σ 31 T1) 32 P1) 30 7 z1) a (by omega)) ?_
            refine w_istore (pc' := 58) (ls' := [gR 30, gI 0, gJ (P * 10000000000000000), gX 1, gI (PP 0), gI (σ 23 ((PP 0) + 1)), gI a, gI (σ 24 a), gX 1, gX 1]) (by decide) (by rfl) dX0_stepOn_56 rfl ?_
            refine w_iload (pc' := 60) (by rfl) dX0_stepOn_58 rfl ?_
            refine w_if_lt (pc' := 63) (t := 181) dX0_stepOn_60 rfl rfl (fun c_60 => ?_) (fun c_60 => ?_)
            · skip
              refine v_iinc (pc' := 184) (x := a) (ls' := [gR 30, gI 0, gJ (P * 10000000000000000), gX 1, gI (PP 0), gI (σ 23 ((PP 0) + 1)), gI (a + 1), gI (σ 24 a), gX 1, gX 1]) (by omega) (by decide) (by rfl) (by rfl) dX0_stepOn_181 rfl ?_
              refine w_goto (pc' := 40) dX0_stepOn_184 rfl ?_
              refine Wp.lose (ls' := [gR 30, gI 0, gJ (P * 10000000000000000), gX 1, gI (PP 0), gI (σ 23 ((PP 0) + 1)), gI (a + 1), gX 1, gX 1, gX 1]) ⟨.inr rfl, ⟨.inr rfl, ⟨.inr rfl, ⟨.inr rfl, ⟨.inr rfl, ⟨.inr rfl, ⟨.inr rfl, ⟨.inl rfl, ⟨.inr rfl, ⟨.inr rfl, trivial⟩⟩⟩⟩⟩⟩⟩⟩⟩⟩ ?_
              have ea : σ 23 (PP 0) + (a - σ 23 (PP 0)) = a := by omega
              have en : (a + 1 - σ 23 (PP 0)).toNat = (a - σ 23 (PP 0)).toNat + 1 := by omega
              have ez : ((a - σ 23 (PP 0)).toNat : Int) = a - σ 23 (PP 0) := by omega
              have es : ∀ f, sumI (fun j => σ 25 (σ 23 (PP 0) + j) * hW A 3 vis (σ 24 (σ 23 (PP 0) + j)) f) (a + 1 - σ 23 (PP 0)).toNat = sumI (fun j => σ 25 (σ 23 (PP 0) + j) * hW A 3 vis (σ 24 (σ 23 (PP 0) + j)) f) (a - σ 23 (PP 0)).toNat + σ 25 a * hW A 3 vis (σ 24 a) f := fun f => by
                rw [show a + 1 - σ 23 (PP 0) = a - σ 23 (PP 0) + 1 by omega, sumI_s (by omega), ea]
              exact ih_40 _ (by omega) (a + 1) T1 P1 z1 rfl (by omega) (by omega) (by intro f x w; rw [es f]; first | (exfalso; omega) | (rw [show hW A 3 vis (σ 24 a) f = 0 from if_pos ((hz (σ 24 a) (by omega) (by omega)).mp (cmpB.mp c_81)), Int.mul_zero, Int.add_zero]; exact ht f x w) | (rw [hT2 f x w, updE (j := 1) (i := 0+1) (by decide)]; exact stepT (k := 3) (c := 1000000000000) hv0 (by decide) (ht f x w) (ht _ (by omega) (by omega)))) (by first | exact hpp | (exfalso; omega) | (intro i x w; rw [hP2 i x (by omega), updI_ne (by omega)]; exact hpp i x w)) (by first | exact hz | (exfalso; omega) | (intro u x w; rw [bitI_clear (by omega) (by omega) x (by omega), hz2 u x w]; simp only [Bool.or_eq_true, decide_eq_true_eq]; constructor; (rintro ⟨h | h, h2⟩; exact h; exact absurd h h2); (intro h; refine ⟨Or.inl h, fun e => ?_⟩; rw [e] at h; exact hv0 h)))
            · skip
              refine w_iload (pc' := 65) (by rfl) dX0_stepOn_63 rfl ?_
              refine w_bipush (pc' := 67) (by decide) (by decide) dX0_stepOn_65 rfl ?_
              refine w_icmp_ge (pc' := 70) (t := 181) dX0_stepOn_67 rfl rfl (fun c_67 => ?_) (fun c_67 => ?_)
              · skip
                refine v_iinc (pc' := 184) (x := a) (ls' := [gR 30, gI 0, gJ (P * 10000000000000000), gX 1, gI (PP 0), gI (σ 23 ((PP 0) + 1)), gI (a + 1), gI (σ 24 a), gX 1, gX 1]) (by omega) (by decide) (by rfl) (by rfl) dX0_stepOn_181 rfl ?_
                refine w_goto (pc' := 40) dX0_stepOn_184 rfl ?_
                refine Wp.lose (ls' := [gR 30, gI 0, gJ (P * 10000000000000000), gX 1, gI (PP 0), gI (σ 23 ((PP 0) + 1)), gI (a + 1), gX 1, gX 1, gX 1]) ⟨.inr rfl, ⟨.inr rfl, ⟨.inr rfl, ⟨.inr rfl, ⟨.inr rfl, ⟨.inr rfl, ⟨.inr rfl, ⟨.inl rfl, ⟨.inr rfl, ⟨.inr rfl, trivial⟩⟩⟩⟩⟩⟩⟩⟩⟩⟩ ?_
                have ea : σ 23 (PP 0) + (a - σ 23 (PP 0)) = a := by omega
                have en : (a + 1 - σ 23 (PP 0)).toNat = (a - σ 23 (PP 0)).toNat + 1 := by omega
                have ez : ((a - σ 23 (PP 0)).toNat : Int) = a - σ 23 (PP 0) := by omega
                have es : ∀ f, sumI (fun j => σ 25 (σ 23 (PP 0) + j) * hW A 3 vis (σ 24 (σ 23 (PP 0) + j)) f) (a + 1 - σ 23 (PP 0)).toNat = sumI (fun j => σ 25 (σ 23 (PP 0) + j) * hW A 3 vis (σ 24 (σ 23 (PP 0) + j)) f) (a - σ 23 (PP 0)).toNat + σ 25 a * hW A 3 vis (σ 24 a) f := fun f => by
                  rw [show a + 1 - σ 23 (PP 0) = a - σ 23 (PP 0) + 1 by omega, sumI_s (by omega), ea]
                exact ih_40 _ (by omega) (a + 1) T1 P1 z1 rfl (by omega) (by omega) (by intro f x w; rw [es f]; first | (exfalso; omega) | (rw [show hW A 3 vis (σ 24 a) f = 0 from if_pos ((hz (σ 24 a) (by omega) (by omega)).mp (cmpB.mp c_81)), Int.mul_zero, Int.add_zero]; exact ht f x w) | (rw [hT2 f x w, updE (j := 1) (i := 0+1) (by decide)]; exact stepT (k := 3) (c := 1000000000000) hv0 (by decide) (ht f x w) (ht _ (by omega) (by omega)))) (by first | exact hpp | (exfalso; omega) | (intro i x w; rw [hP2 i x (by omega), updI_ne (by omega)]; exact hpp i x w)) (by first | exact hz | (exfalso; omega) | (intro u x w; rw [bitI_clear (by omega) (by omega) x (by omega), hz2 u x w]; simp only [Bool.or_eq_true, decide_eq_true_eq]; constructor; (rintro ⟨h | h, h2⟩; exact h; exact absurd h h2); (intro h; refine ⟨Or.inl h, fun e => ?_⟩; rw [e] at h; exact hv0 h)))
              · skip
                refine w_aload_n (pc' := 71) (i := 0) (by rfl) (by rfl) dX0_stepOn_70 rfl ?_
                refine v_getJ (pc' := 74) (ji := 7) rfl fg_X0_61 kd_30 dX0_stepOn_71 rfl ?_
                show Wp _ _ _ _ _ _ [gJ z1]
                refine w_iload (pc' := 76) (by rfl) dX0_stepOn_74 rfl ?_
                refine w_lshr (pc' := 77) dX0_stepOn_76 rfl ?_
                refine w_lconst (n := 1) (pc' := 78) (by decide) (by decide) dX0_stepOn_77 rfl ?_
                refine w_land (pc' := 79) dX0_stepOn_78 rfl ?_
                refine w_lconst (n := 0) (pc' := 80) (by decide) (by decide) dX0_stepOn_79 rfl ?_
                refine w_lcmp (pc' := 81) dX0_stepOn_80 rfl ?_
                refine w_if_ne (pc' := 84) (t := 181) dX0_stepOn_81 rfl rfl (fun c_81 => ?_) (fun c_81 => ?_)
                · skip
                  refine v_iinc (pc' := 184) (x := a) (ls' := [gR 30, gI 0, gJ (P * 10000000000000000), gX 1, gI (PP 0), gI (σ 23 ((PP 0) + 1)), gI (a + 1), gI (σ 24 a), gX 1, gX 1]) (by omega) (by decide) (by rfl) (by rfl) dX0_stepOn_181 rfl ?_
                  refine w_goto (pc' := 40) dX0_stepOn_184 rfl ?_
                  refine Wp.lose (ls' := [gR 30, gI 0, gJ (P * 10000000000000000), gX 1, gI (PP 0), gI (σ 23 ((PP 0) + 1)), gI (a + 1), gX 1, gX 1, gX 1]) ⟨.inr rfl, ⟨.inr rfl, ⟨.inr rfl, ⟨.inr rfl, ⟨.inr rfl, ⟨.inr rfl, ⟨.inr rfl, ⟨.inl rfl, ⟨.inr rfl, ⟨.inr rfl, trivial⟩⟩⟩⟩⟩⟩⟩⟩⟩⟩ ?_
                  have ea : σ 23 (PP 0) + (a - σ 23 (PP 0)) = a := by omega
                  have en : (a + 1 - σ 23 (PP 0)).toNat = (a - σ 23 (PP 0)).toNat + 1 := by omega
                  have ez : ((a - σ 23 (PP 0)).toNat : Int) = a - σ 23 (PP 0) := by omega
                  have es : ∀ f, sumI (fun j => σ 25 (σ 23 (PP 0) + j) * hW A 3 vis (σ 24 (σ 23 (PP 0) + j)) f) (a + 1 - σ 23 (PP 0)).toNat = sumI (fun j => σ 25 (σ 23 (PP 0) + j) * hW A 3 vis (σ 24 (σ 23 (PP 0) + j)) f) (a - σ 23 (PP 0)).toNat + σ 25 a * hW A 3 vis (σ 24 a) f := fun f => by
                    rw [show a + 1 - σ 23 (PP 0) = a - σ 23 (PP 0) + 1 by omega, sumI_s (by omega), ea]
                  exact ih_40 _ (by omega) (a + 1) T1 P1 z1 rfl (by omega) (by omega) (by intro f x w; rw [es f]; first | (exfalso; omega) | (rw [show hW A 3 vis (σ 24 a) f = 0 from if_pos ((hz (σ 24 a) (by omega) (by omega)).mp (cmpB.mp c_81)), Int.mul_zero, Int.add_zero]; exact ht f x w) | (rw [hT2 f x w, updE (j := 1) (i := 0+1) (by decide)]; exact stepT (k := 3) (c := 1000000000000) hv0 (by decide) (ht f x w) (ht _ (by omega) (by omega)))) (by first | exact hpp | (exfalso; omega) | (intro i x w; rw [hP2 i x (by omega), updI_ne (by omega)]; exact hpp i x w)) (by first | exact hz | (exfalso; omega) | (intro u x w; rw [bitI_clear (by omega) (by omega) x (by omega), hz2 u x w]; simp only [Bool.or_eq_true, decide_eq_true_eq]; constructor; (rintro ⟨h | h, h2⟩; exact h; exact absurd h h2); (intro h; refine ⟨Or.inl h, fun e => ?_⟩; rw [e] at h; exact hv0 h)))
                · skip
                  refine w_lload_n (pc' := 85) (i := 2) (by rfl) (by rfl) dX0_stepOn_84 rfl ?_
                  refine w_ldc2 (pc' := 88) (by decide) ct_X0_80 dX0_stepOn_85 rfl ?_
                  refine w_ldiv (pc' := 89) (by omega) dX0_stepOn_88 rfl ?_
                  refine Wp.stJ (y := P * 1000000000000) (show w64 ((P * 10000000000000000).tdiv 10000) = P * 1000000000000 from divx (c := 1000000000000) hP.1 (by decide) (by omega)) ?_
                  refine w_aload_n (pc' := 90) (i := 0) (by rfl) (by rfl) dX0_stepOn_89 rfl ?_
                  refine w_getS (pc' := 93) (q := 14) fg_X0_22 kd_30 sf_X0_0 gr_30_0 dX0_stepOn_90 rfl ?_
                  refine w_iload (pc' := 95) (by rfl) dX0_stepOn_93 rfl ?_
                  refine v_callVE (pc' := 98) (st' := [gI (σ 25 a), gJ (P * 1000000000000)]) (d' := 0) (av := [gI a]) mi_mX7_partOn lk_X0_82 rfl ci_X7 kd_14 rfl (Nat.le_of_ble_eq_true rfl) (Nat.le_of_ble_eq_true rfl) dX0_stepOn_95 rfl rfl (k_partOn (gUp (gUr (gUr σ 31 T1) 32 P1) 30 7 z1) a (by omega)) ?_
                  refine w_i2l (pc' := 99) dX0_stepOn_98 rfl ?_
                  refine v_lmul (pc' := 100) (by have h9 := mulb (M := 1) hP.1 hP.2 hpa.1 hpa.2; rw [← hpe (by omega)] at h9; have h8 : P * 1000000000000 * σ 25 a = (P * σ 25 a) * 1000000000000 := (by rw [Int.mul_assoc, Int.mul_comm 1000000000000, ← Int.mul_assoc]); rw [h8]; omega) dX0_stepOn_99 rfl ?_
                  refine Wp.stJ (y := (P * (σ 25 a)) * 1000000000000) (by rw [Int.mul_assoc, Int.mul_comm 1000000000000, ← Int.mul_assoc]) ?_
                  refine w_lstore (pc' := 102) (ls' := [gR 30, gI 0, gJ (P * 10000000000000000), gX 1, gI (PP 0), gI (σ 23 ((PP 0) + 1)), gI a, gI (σ 24 a), gJ ((P * (σ 25 a)) * 1000000000000), gX 1]) (by decide) (by rfl) dX0_stepOn_100 rfl ?_
                  have hv0 : ¬ vis (σ 24 a) = true := fun h => by
                    have := (hz (σ 24 a) (by omega) (by omega)).mpr h
                    exact cmpB.mpr this c_81
                  rw [← hpe (by omega)] at hpa
                  have hT1 : ∀ f, 0 ≤ f → f < 60 → gi64 (updI T1 (σ 24 a) (w64 (T1 (σ 24 a) + P * σ 25 a * 1000000000000)) f) := fun f x w => by
                    unfold updI
                    split
                    · exact w64_in _
                    · rw [ht f x w]; exact w64_in _
                  have hv1 : ∀ u, 0 ≤ u → u < 60 → (bitI (gB64 (fun a b => a ||| b) z1 (gS64 (fun a b => a <<< b) 1 (σ 24 a))) u ↔ (fun u => vis u || decide (u = σ 24 a)) u = true) := fun u x w => by
                    rw [bitI_set (by omega) (by omega) x (by omega), hz u x w]
                    simp only [Bool.or_eq_true, decide_eq_true_eq]
                  refine w_aload_n (pc' := 103) (i := 0) (by rfl) (by rfl) dX0_stepOn_102 rfl ?_
                  refine w_getS (pc' := 106) (q := 31) fg_X0_9 kd_30 sf_X0_1 gr_30_1 dX0_stepOn_103 rfl ?_
                  refine w_iload (pc' := 108) (by rfl) dX0_stepOn_106 rfl ?_
                  refine w_dup2 (pc' := 109) dX0_stepOn_108 rfl ?_
                  refine w_lald (pc' := 110) kd_31 (by omega) (by omega) dX0_stepOn_109 rfl ?_
                  show Wp _ _ _ _ _ _ [gJ (T1 (σ 24 a)), gI (σ 24 a), gR 31]
                  refine w_lload (pc' := 112) (by rfl) dX0_stepOn_110 rfl ?_
                  refine w_ladd (pc' := 113) dX0_stepOn_112 rfl ?_
                  refine w_last (pc' := 114) kd_31 (by omega) (by omega) dX0_stepOn_113 rfl ?_
                  refine Wp.heq (σ' := gUp (gUr (gUr σ 31 (updI T1 (σ 24 a) (w64 ((T1 (σ 24 a)) + ((P * (σ 25 a)) * 1000000000000))))) 32 P1) 30 7 z1) ((gUp_cu (by decide)).trans (congrArg (fun z => gUp z 30 7 z1) ((gUp_cr (by decide)).trans (congrArg (fun z => gUr z 32 P1) gUp_row)))) ?_
                  refine w_aload_n (pc' := 115) (i := 0) (by rfl) (by rfl) dX0_stepOn_114 rfl ?_
                  refine w_getS (pc' := 118) (q := 32) fg_X0_15 kd_30 sf_X0_2 gr_30_2 dX0_stepOn_115 rfl ?_
                  refine w_iload_n (pc' := 119) (i := 1) (by rfl) (by rfl) dX0_stepOn_118 rfl ?_
                  refine w_iconst (pc' := 120) (by decide) dX0_stepOn_119 rfl ?_
                  refine v_iadd (pc' := 121) (by omega) dX0_stepOn_120 rfl ?_
                  refine w_iload (pc' := 123) (by rfl) dX0_stepOn_121 rfl ?_
                  refine w_iast (pc' := 124) kd_32 (by omega) (by omega) dX0_stepOn_123 rfl ?_
                  refine Wp.heq (σ' := gUp (gUr (gUr σ 31 (updI T1 (σ 24 a) (w64 ((T1 (σ 24 a)) + ((P * (σ 25 a)) * 1000000000000))))) 32 (updI P1 (0 + 1) (σ 24 a))) 30 7 z1) ((gUp_cu (by decide)).trans (congrArg (fun z => gUp z 30 7 z1) gUp_row)) ?_
                  refine w_iload (pc' := 126) (by rfl) dX0_stepOn_124 rfl ?_
                  refine w_aload_n (pc' := 127) (i := 0) (by rfl) (by rfl) dX0_stepOn_126 rfl ?_
                  refine v_getI (pc' := 130) (ji := 6) rfl fg_X0_58 kd_30 dX0_stepOn_127 rfl ?_
                  show Wp _ _ _ _ _ _ [gI (σ 30 6), gI (σ 24 a)]
                  refine w_icmp_ne (pc' := 133) (t := 142) dX0_stepOn_130 rfl rfl (fun c_130 => ?_) (fun c_130 => ?_)
                  · skip
                    refine w_aload_n (pc' := 143) (i := 0) (by rfl) (by rfl) dX0_stepOn_142 rfl ?_
                    refine w_dup (pc' := 144) dX0_stepOn_143 rfl ?_
                    refine v_getJ (pc' := 147) (ji := 7) rfl fg_X0_61 kd_30 dX0_stepOn_144 rfl ?_
                    show Wp _ _ _ _ _ _ [gJ z1, gR 30]
                    refine w_lconst (n := 1) (pc' := 148) (by decide) (by decide) dX0_stepOn_147 rfl ?_
                    refine w_iload (pc' := 150) (by rfl) dX0_stepOn_148 rfl ?_
                    refine w_lshl (pc' := 151) dX0_stepOn_150 rfl ?_
                    refine w_lor (pc' := 152) dX0_stepOn_151 rfl ?_
                    refine v_putJ (pc' := 155) (ji := 7) rfl fp_X0_61 kd_30 sf_X0_7 dX0_stepOn_152 rfl ?_
                    refine Wp.heq (σ' := gUp (gUr (gUr σ 31 (updI T1 (σ 24 a) (w64 ((T1 (σ 24 a)) + ((P * (σ 25 a)) * 1000000000000))))) 32 (updI P1 (0 + 1) (σ 24 a))) 30 7 (gB64 (fun a b => a ||| b) z1 (gS64 (fun a b => a <<< b) 1 (σ 24 a)))) gUp_same ?_
                    refine w_aload_n (pc' := 156) (i := 0) (by rfl) (by rfl) dX0_stepOn_155 rfl ?_
                    refine w_iload_n (pc' := 157) (i := 1) (by rfl) (by rfl) dX0_stepOn_156 rfl ?_
                    refine w_iconst (pc' := 158) (by decide) dX0_stepOn_157 rfl ?_
                    refine v_iadd (pc' := 159) (by omega) dX0_stepOn_158 rfl ?_
                    refine w_lload (pc' := 161) (by rfl) dX0_stepOn_159 rfl ?_
                    refine w_callS (pc' := 164) (d' := 4) (av := [gR 30, gI (0 + 1), gJ ((P * (σ 25 a)) * 1000000000000)]) ms_mX0_stepOn st_mX0_stepOn lk_X0_66 rfl rfl (Nat.le_of_ble_eq_true rfl) (Nat.le_of_ble_eq_true rfl) dX0_stepOn_161 rfl (k_step3 (A := A) hA hp hgl (updI T1 (σ 24 a) (w64 ((T1 (σ 24 a)) + ((P * (σ 25 a)) * 1000000000000)))) (updI P1 (0 + 1) (σ 24 a)) (gB64 (fun a b => a ||| b) z1 (gS64 (fun a b => a <<< b) 1 (σ 24 a))) (P * (σ 25 a)) (fun u => vis u || decide (u = σ 24 a)) (by have := mulb hP.1 hP.2 (hpa.1) (hpa.2); omega) (by rw [updE (by decide)]; omega) hT1 hv1) (fun v_161 σ_161 q_161 => ?_)
                    obtain ⟨rfl, T2, P2, z2, rfl, hT2, hP2, hz2⟩ := q_161
                    show Wp _ _ _ _ _ _ []
                    refine w_aload_n (pc' := 165) (i := 0) (by rfl) (by rfl) dX0_stepOn_164 rfl ?_
                    refine w_dup (pc' := 166) dX0_stepOn_165 rfl ?_
                    refine v_getJ (pc' := 169) (ji := 7) rfl fg_X0_61 kd_30 dX0_stepOn_166 rfl ?_
                    show Wp _ _ _ _ _ _ [gJ z2, gR 30]
                    refine w_lconst (n := 1) (pc' := 170) (by decide) (by decide) dX0_stepOn_169 rfl ?_
                    refine w_iload (pc' := 172) (by rfl) dX0_stepOn_170 rfl ?_
                    refine w_lshl (pc' := 173) dX0_stepOn_172 rfl ?_
                    refine w_ldc2 (pc' := 176) (by decide) ct_X0_89 dX0_stepOn_173 rfl ?_
                    refine w_lxor (pc' := 177) dX0_stepOn_176 rfl ?_
                    refine w_land (pc' := 178) dX0_stepOn_177 rfl ?_
                    refine v_putJ (pc' := 181) (ji := 7) rfl fp_X0_61 kd_30 sf_X0_7 dX0_stepOn_178 rfl ?_
                    refine Wp.heq (σ' := gUp (gUr (gUr σ 31 T2) 32 P2) 30 7 (gB64 (fun a b => a &&& b) z2 (gB64 (fun a b => a ^^^ b) (gS64 (fun a b => a <<< b) 1 (σ 24 a)) (-1)))) gUp_same ?_
                    refine v_iinc (pc' := 184) (x := a) (ls' := [gR 30, gI 0, gJ (P * 10000000000000000), gX 1, gI (PP 0), gI (σ 23 ((PP 0) + 1)), gI (a + 1), gI (σ 24 a), gJ ((P * (σ 25 a)) * 1000000000000), gX 1]) (by omega) (by decide) (by rfl) (by rfl) dX0_stepOn_181 rfl ?_
                    refine w_goto (pc' := 40) dX0_stepOn_184 rfl ?_
                    refine Wp.lose (ls' := [gR 30, gI 0, gJ (P * 10000000000000000), gX 1, gI (PP 0), gI (σ 23 ((PP 0) + 1)), gI (a + 1), gX 1, gX 1, gX 1]) ⟨.inr rfl, ⟨.inr rfl, ⟨.inr rfl, ⟨.inr rfl, ⟨.inr rfl, ⟨.inr rfl, ⟨.inr rfl, ⟨.inl rfl, ⟨.inl rfl, ⟨.inr rfl, trivial⟩⟩⟩⟩⟩⟩⟩⟩⟩⟩ ?_
                    have ea : σ 23 (PP 0) + (a - σ 23 (PP 0)) = a := by omega
                    have en : (a + 1 - σ 23 (PP 0)).toNat = (a - σ 23 (PP 0)).toNat + 1 := by omega
                    have ez : ((a - σ 23 (PP 0)).toNat : Int) = a - σ 23 (PP 0) := by omega
                    have es : ∀ f, sumI (fun j => σ 25 (σ 23 (PP 0) + j) * hW A 3 vis (σ 24 (σ 23 (PP 0) + j)) f) (a + 1 - σ 23 (PP 0)).toNat = sumI (fun j => σ 25 (σ 23 (PP 0) + j) * hW A 3 vis (σ 24 (σ 23 (PP 0) + j)) f) (a - σ 23 (PP 0)).toNat + σ 25 a * hW A 3 vis (σ 24 a) f := fun f => by
                      rw [show a + 1 - σ 23 (PP 0) = a - σ 23 (PP 0) + 1 by omega, sumI_s (by omega), ea]
                    exact ih_40 _ (by omega) (a + 1) T2 P2 (gB64 (fun a b => a &&& b) z2 (gB64 (fun a b => a ^^^ b) (gS64 (fun a b => a <<< b) 1 (σ 24 a)) (-1))) rfl (by omega) (by omega) (by intro f x w; rw [es f]; first | (exfalso; omega) | (rw [show hW A 3 vis (σ 24 a) f = 0 from if_pos ((hz (σ 24 a) (by omega) (by omega)).mp (cmpB.mp c_81)), Int.mul_zero, Int.add_zero]; exact ht f x w) | (rw [hT2 f x w, updE (j := 1) (i := 0+1) (by decide)]; exact stepT (k := 3) (c := 1000000000000) hv0 (by decide) (ht f x w) (ht _ (by omega) (by omega)))) (by first | exact hpp | (exfalso; omega) | (intro i x w; rw [hP2 i x (by omega), updI_ne (by omega)]; exact hpp i x w)) (by first | exact hz | (exfalso; omega) | (intro u x w; rw [bitI_clear (by omega) (by omega) x (by omega), hz2 u x w]; simp only [Bool.or_eq_true, decide_eq_true_eq]; constructor; (rintro ⟨h | h, h2⟩; exact h; exact absurd h h2); (intro h; refine ⟨Or.inl h, fun e => ?_⟩; rw [e] at h; exact hv0 h)))
                  · skip
                    exfalso; omega
      exact hl_40 _ (σ 23 (PP 0)) TT PP z rfl (by omega) (by omega) (by intro f x w; rw [Int.sub_self]; show TT f = w64 (TT f + P * 0); rw [Int.mul_zero, Int.add_zero]; exact (w64_id (hT f x w)).symm) (by intro i x w; rfl) (by exact hv)
    · skip
      exact absurd c_6 (by decide)
