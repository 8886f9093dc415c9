/-! parts by way of others: the reference, the call (gen/mod_chn3.py) -/
theorem pS_vis {A : Int → Int → Int} {f : Int} : ∀ (k : Nat) (vis : Int → Bool) (y : Int), vis f = true → pS A k vis y f = 0
  | 0, _, _, _ => rfl
  | k + 1, vis, y, h => by
    refine (sumI_congr (g := fun _ => 0) fun z a b => ?_).trans (sumI_zero _)
    by_cases c : vis z = true
    · rw [if_pos c, Int.mul_zero]
    · rw [if_neg c, if_neg (fun e : z = f => c (e ▸ h)), pS_vis k _ z (by rw [h]; rfl), Int.add_zero, Int.mul_zero]
theorem pS_step {A : Int → Int → Int} {f : Int} (k : Nat) (vis : Int → Bool) (y : Int) (hv : ¬ vis f = true) (f0 : 0 ≤ f) (f1 : f < 60) : pS A (k + 1) vis y f = A y f * 10000 ^ k + sumI (fun z => if vis z = true ∨ z = f then 0 else A y z * pS A k (fun u => vis u || decide (u = z)) z f) 60 := by
  have e : A y f * 10000 ^ k = sumI (fun z => if z = f then A y z * 10000 ^ k else 0) 60 := by
    rw [sumI_one (f := fun z => if z = f then A y z * 10000 ^ k else 0) f0 f1 (fun i _ _ c => if_neg c), if_pos rfl]
  rw [e, ← sumI_add]
  refine sumI_congr fun z a b => ?_
  by_cases c : vis z = true
  · rw [if_pos c, if_pos (Or.inl c), if_neg (fun e : z = f => hv (e ▸ c)), Int.mul_zero, Int.add_zero]
  · by_cases c2 : z = f
    · subst c2
      rw [if_neg c, if_pos rfl, if_pos rfl, if_pos (Or.inr rfl), pS_vis k _ z (by simp), Int.add_zero, Int.add_zero]
    · rw [if_neg c, if_neg c2, if_neg c2, if_neg (fun e => e.elim c c2), Int.zero_add, Int.zero_add]
def m3t (A : Int → Int → Int) (x f i j k : Int) : Int := if k = x ∨ k = f ∨ k = i then 0 else A j k * A k f
def m2t (A : Int → Int → Int) (x f i j : Int) : Int := if j = x ∨ j = f then 0 else A i j * (A j f * 10000 + sumI (m3t A x f i j) 60)
def m1t (A : Int → Int → Int) (x f i : Int) : Int := if i = f then 0 else A x i * (A i f * 100000000 + sumI (m2t A x f i) 60)
def mP (A : Int → Int → Int) (x f : Int) : Int := A x f * 1000000000000 + sumI (m1t A x f) 60
theorem pS_mP {A : Int → Int → Int} (hd : ∀ y, A y y = 0) {x f : Int} (hn : x ≠ f) (f0 : 0 ≤ f) (f1 : f < 60) : pS A 4 (fun u => decide (u = x)) x f = mP A x f := by
  rw [pS_step 3 _ x (by simp; omega) f0 f1]
  unfold mP
  congr 1
  refine sumI_congr fun i a b => ?_
  unfold m1t
  by_cases c : i = f
  · rw [if_pos (Or.inr c), if_pos c]
  rw [if_neg c]
  by_cases c2 : i = x
  · rw [if_pos (Or.inl (by simp [c2])), c2, hd, Int.zero_mul]
  rw [if_neg (by simp [c, c2]), pS_step 2 _ i (by simp; omega) f0 f1]
  congr 1
  congr 1
  refine sumI_congr fun j a b => ?_
  unfold m2t
  by_cases c3 : j = x ∨ j = f
  · rw [if_pos c3, if_pos (by rcases c3 with h | h <;> simp [h])]
  rw [if_neg c3]
  by_cases c4 : j = i
  · rw [if_pos (Or.inl (by simp [c4])), c4, hd, Int.zero_mul]
  rw [if_neg (by simp; omega), pS_step 1 _ j (by simp; omega) f0 f1]
  congr 1
  congr 1
  refine sumI_congr fun k a b => ?_
  unfold m3t
  by_cases c5 : k = x ∨ k = f ∨ k = i
  · rw [if_pos c5, if_pos (by rcases c5 with h | h | h <;> simp [h])]
  rw [if_neg c5]
  by_cases c6 : k = j
  · rw [if_pos (Or.inl (by simp [c6])), c6, hd, Int.zero_mul]
  rw [if_neg (by simp; omega), pS_step 0 _ k (by simp; omega) f0 f1]
  congr 1
  rw [(sumI_congr (g := fun _ => 0) (fun z _ _ => by split; rfl; exact Int.mul_zero _)).trans (sumI_zero 60)]
  show A k f * 1 + 0 = A k f
  omega
theorem mt3_out {A : Int → Int → Int} {n x f i j : Int} (ho : ∀ g f, n ≤ g ∨ n ≤ f → A g f = 0) (h0 : 0 ≤ n) (h1 : n ≤ 60) : sumI (m3t A x f i j) 60 = sumI (m3t A x f i j) n.toNat := sumI_ext (by omega) fun k a b => by
  unfold m3t
  rw [ho j k (Or.inr (by omega)), Int.zero_mul, ite_self]
theorem mt2_out {A : Int → Int → Int} {n x f i : Int} (ho : ∀ g f, n ≤ g ∨ n ≤ f → A g f = 0) (h0 : 0 ≤ n) (h1 : n ≤ 60) : sumI (m2t A x f i) 60 = sumI (m2t A x f i) n.toNat := sumI_ext (by omega) fun k a b => by
  unfold m2t
  rw [ho i k (Or.inr (by omega)), Int.zero_mul, ite_self]
theorem mt1_out {A : Int → Int → Int} {n x f : Int} (ho : ∀ g f, n ≤ g ∨ n ≤ f → A g f = 0) (h0 : 0 ≤ n) (h1 : n ≤ 60) : sumI (m1t A x f) 60 = sumI (m1t A x f) n.toNat := sumI_ext (by omega) fun k a b => by
  unfold m1t
  rw [ho x k (Or.inr (by omega)), Int.zero_mul, ite_self]
theorem q_atA {σ : gH} {A : Int → Int → Int} (hP : ∀ x f, 0 ≤ x → x < 60 → 0 ≤ f → f < 60 → σ 168 (60 * x + f) = A x f) (x f : Int) (hx : 0 ≤ x ∧ x < 60) (hf : 0 ≤ f ∧ f < 60) : Mt mX12_at 0 [gR 133, gI x, gI f] σ (rE (gI (A x f)) σ) := by
  rw [← hP x f hx.1 hx.2 hf.1 hf.2]
  exact q_at x f hx hf
set_option maxHeartbeats 4000000 in
theorem q_partOf {σ : gH} {A : Int → Int → Int} (hP : ∀ x f, 0 ≤ x → x < 60 → 0 ≤ f → f < 60 → σ 168 (60 * x + f) = A x f) (hp : ∀ c f, 0 ≤ A c f ∧ A c f ≤ 10000) {n : Int} (hn : σ 133 6 = n) (hn0 : 0 ≤ n) (hn1 : n ≤ 60) (hout : ∀ g f, n ≤ g ∨ n ≤ f → A g f = 0) (hd : ∀ y, A y y = 0) (x f : Int) (hx : 0 ≤ x ∧ x < 60) (hf : 0 ≤ f ∧ f < 60) : Mt mX12_partOf 1 [gR 133, gI x, gI f] σ (rE (gJ (w64 (pS A 4 (fun u => decide (u = x)) x f))) σ) := by
  refine Mt.walk (ls := [gR 133, gI x, gI f, gX 1, gX 1, gX 1, gX 1, gX 1, gX 1, gX 1, gX 1, gX 1]) pn_X12 rfl (fun _ _ h => by cases h.1) (Nat.le_of_ble_eq_true rfl) rfl ?_
  have pxf := hp x f
  refine w_iload_n (pc' := 1) (i := 1) (by rfl) (by rfl) dX12_partOf_0 rfl ?_
  refine w_iload_n (pc' := 2) (i := 2) (by rfl) (by rfl) dX12_partOf_1 rfl ?_
  refine w_icmp_ne (pc' := 5) (t := 7) dX12_partOf_2 rfl rfl (fun c_2 => ?_) (fun c_2 => ?_)
  · skip
    refine w_aload_n (pc' := 8) (i := 0) (by rfl) (by rfl) dX12_partOf_7 rfl ?_
    refine w_iload_n (pc' := 9) (i := 1) (by rfl) (by rfl) dX12_partOf_8 rfl ?_
    refine w_iload_n (pc' := 10) (i := 2) (by rfl) (by rfl) dX12_partOf_9 rfl ?_
    refine v_callVE (pc' := 13) (st' := [gI (A x f)]) (d' := 0) (av := [gI x, gI f]) mi_mX12_at lk_X12_332 rfl ci_X12 kd_133 rfl (Nat.le_of_ble_eq_true rfl) (Nat.le_of_ble_eq_true rfl) dX12_partOf_10 rfl rfl (q_atA (A := A) hP x f ⟨by omega, by omega⟩ ⟨by omega, by omega⟩) ?_
    refine w_i2l (pc' := 14) dX12_partOf_13 rfl ?_
    refine w_ldc2 (pc' := 17) (by decide) ct_X12_338 dX12_partOf_14 rfl ?_
    refine v_lmul (pc' := 18) (by omega) dX12_partOf_17 rfl ?_
    refine w_lstore_n (pc' := 19) (i := 3) (ls' := [gR 133, gI x, gI f, gJ ((A x f) * 1000000000000), gX 1, gX 1, gX 1, gX 1, gX 1, gX 1, gX 1, gX 1]) (by rfl) (by decide) (by rfl) dX12_partOf_18 rfl ?_
    refine w_iconst (pc' := 20) (by decide) dX12_partOf_19 rfl ?_
    refine w_istore (pc' := 22) (ls' := [gR 133, gI x, gI f, gJ ((A x f) * 1000000000000), gX 1, gI 0, gX 1, gX 1, gX 1, gX 1, gX 1, gX 1]) (by decide) (by rfl) dX12_partOf_20 rfl ?_
    have hl_22 : ∀ (mm : Nat) (i T : Int), (n - i).toNat = mm → (0 ≤ i) → (i ≤ n) → (T = w64 (A x f * 1000000000000 + sumI (m1t A x f) i.toNat)) → Wp mX12_partOf 1 (rE (gJ (w64 (pS A 4 (fun u => decide (u = x)) x f))) σ) σ 22 [gR 133, gI x, gI f, gJ T, gX 1, gI i, gX 1, gX 1, gX 1, gX 1, gX 1, gX 1] [] := by
      intro m_22
      induction m_22 using Nat.strongRecOn with
      | _ m_22 ih_22 =>
        intro i T hmeas_22 i0 i1 hT
        have e1 : sumI (m1t A x f) (i + 1).toNat = sumI (m1t A x f) i.toNat + m1t A x f i := sumI_s i0
        have pxi := hp x i
        have pif := hp i f
        have b1 := mulb (M := 10000) pxi.1 pxi.2 pif.1 pif.2
        refine w_iload (pc' := 24) (by rfl) dX12_partOf_22 rfl ?_
        refine w_aload_n (pc' := 25) (i := 0) (by rfl) (by rfl) dX12_partOf_24 rfl ?_
        refine v_getI (pc' := 28) (ji := 6) rfl fg_X12_273 kd_133 dX12_partOf_25 rfl ?_
        refine w_icmp_ge (pc' := 31) (t := 214) dX12_partOf_28 rfl rfl (fun c_28 => ?_) (fun c_28 => ?_)
        · skip
          refine w_lload_n (pc' := 215) (i := 3) (by rfl) (by rfl) dX12_partOf_214 rfl ?_
          refine w_lreturn rfl dX12_partOf_215 ?_
          rw [pS_mP hd (by omega) hf.1 hf.2]
          unfold mP
          rw [hT, show i = n by omega, mt1_out hout hn0 hn1]
          exact ⟨rfl, rfl⟩
        · skip
          refine w_aload_n (pc' := 32) (i := 0) (by rfl) (by rfl) dX12_partOf_31 rfl ?_
          refine w_iload_n (pc' := 33) (i := 1) (by rfl) (by rfl) dX12_partOf_32 rfl ?_
          refine w_iload (pc' := 35) (by rfl) dX12_partOf_33 rfl ?_
          refine v_callVE (pc' := 38) (st' := [gI (A x i)]) (d' := 0) (av := [gI x, gI i]) mi_mX12_at lk_X12_332 rfl ci_X12 kd_133 rfl (Nat.le_of_ble_eq_true rfl) (Nat.le_of_ble_eq_true rfl) dX12_partOf_35 rfl rfl (q_atA (A := A) hP x i ⟨by omega, by omega⟩ ⟨by omega, by omega⟩) ?_
          refine w_i2l (pc' := 39) dX12_partOf_38 rfl ?_
          refine w_lstore (pc' := 41) (ls' := [gR 133, gI x, gI f, gJ T, gX 1, gI i, gJ (A x i), gX 1, gX 1, gX 1, gX 1, gX 1]) (by decide) (by rfl) dX12_partOf_39 rfl ?_
          refine w_iload (pc' := 43) (by rfl) dX12_partOf_41 rfl ?_
          refine w_iload_n (pc' := 44) (i := 2) (by rfl) (by rfl) dX12_partOf_43 rfl ?_
          refine w_icmp_eq (pc' := 47) (t := 208) dX12_partOf_44 rfl rfl (fun c_44 => ?_) (fun c_44 => ?_)
          · skip
            refine v_iinc (pc' := 211) (x := i) (ls' := [gR 133, gI x, gI f, gJ T, gX 1, gI (i + 1), gJ (A x i), gX 1, gX 1, gX 1, gX 1, gX 1]) (by omega) (by decide) (by rfl) (by rfl) dX12_partOf_208 rfl ?_
            refine w_goto (pc' := 22) dX12_partOf_211 rfl ?_
            refine Wp.lose (ls' := [gR 133, gI x, gI f, gJ T, gX 1, gI (i + 1), gX 1, gX 1, gX 1, gX 1, gX 1, gX 1]) ⟨.inr rfl, ⟨.inr rfl, ⟨.inr rfl, ⟨.inr rfl, ⟨.inr rfl, ⟨.inr rfl, ⟨.inl rfl, ⟨.inr rfl, ⟨.inr rfl, ⟨.inr rfl, ⟨.inr rfl, ⟨.inr rfl, trivial⟩⟩⟩⟩⟩⟩⟩⟩⟩⟩⟩⟩ ?_
            exact ih_22 _ (by omega) (i + 1) T rfl (by omega) (by omega) (by rw [e1]; first | (rw [show m1t A x f i = 0 from if_pos (by omega), Int.add_zero]; exact hT) | (rw [show m1t A x f i = 0 by unfold m1t; rw [gCmp_0.mp c_51, Int.zero_mul, ite_self], Int.add_zero]; exact hT) | (rw [hT2, show j = n by omega, show m1t A x f i = A x i * (A i f * 100000000 + sumI (m2t A x f i) n.toNat) by unfold m1t; rw [if_neg (by omega), mt2_out hout hn0 hn1]]; congr 1; omega))
          · skip
            refine w_lload (pc' := 49) (by rfl) dX12_partOf_47 rfl ?_
            refine w_lconst (n := 0) (pc' := 50) (by decide) (by decide) dX12_partOf_49 rfl ?_
            refine w_lcmp (pc' := 51) dX12_partOf_50 rfl ?_
            refine w_if_ne (pc' := 54) (t := 57) dX12_partOf_51 rfl rfl (fun c_51 => ?_) (fun c_51 => ?_)
            · skip
              refine w_lload_n (pc' := 58) (i := 3) (by rfl) (by rfl) dX12_partOf_57 rfl ?_
              refine w_lload (pc' := 60) (by rfl) dX12_partOf_58 rfl ?_
              refine w_aload_n (pc' := 61) (i := 0) (by rfl) (by rfl) dX12_partOf_60 rfl ?_
              refine w_iload (pc' := 63) (by rfl) dX12_partOf_61 rfl ?_
              refine w_iload_n (pc' := 64) (i := 2) (by rfl) (by rfl) dX12_partOf_63 rfl ?_
              refine v_callVE (pc' := 67) (st' := [gI (A i f), gJ (A x i), gJ T]) (d' := 0) (av := [gI i, gI f]) mi_mX12_at lk_X12_332 rfl ci_X12 kd_133 rfl (Nat.le_of_ble_eq_true rfl) (Nat.le_of_ble_eq_true rfl) dX12_partOf_64 rfl rfl (q_atA (A := A) hP i f ⟨by omega, by omega⟩ ⟨by omega, by omega⟩) ?_
              refine w_i2l (pc' := 68) dX12_partOf_67 rfl ?_
              refine v_lmul (pc' := 69) (by omega) dX12_partOf_68 rfl ?_
              refine w_ldc2 (pc' := 72) (by decide) ct_X12_340 dX12_partOf_69 rfl ?_
              refine v_lmul (pc' := 73) (by omega) dX12_partOf_72 rfl ?_
              refine w_ladd (pc' := 74) dX12_partOf_73 rfl ?_
              refine w_lstore_n (pc' := 75) (i := 3) (ls' := [gR 133, gI x, gI f, gJ (w64 (T + (((A x i) * (A i f)) * 100000000))), gX 1, gI i, gJ (A x i), gX 1, gX 1, gX 1, gX 1, gX 1]) (by rfl) (by decide) (by rfl) dX12_partOf_74 rfl ?_
              refine w_iconst (pc' := 76) (by decide) dX12_partOf_75 rfl ?_
              refine w_istore (pc' := 78) (ls' := [gR 133, gI x, gI f, gJ (w64 (T + (((A x i) * (A i f)) * 100000000))), gX 1, gI i, gJ (A x i), gX 1, gI 0, gX 1, gX 1, gX 1]) (by decide) (by rfl) dX12_partOf_76 rfl ?_
              have hl_78 : ∀ (mm : Nat) (j T2 : Int), (n - j).toNat = mm → (0 ≤ j) → (j ≤ n) → (T2 = w64 (A x f * 1000000000000 + sumI (m1t A x f) i.toNat + A x i * (A i f * 100000000 + sumI (m2t A x f i) j.toNat))) → Wp mX12_partOf 1 (rE (gJ (w64 (pS A 4 (fun u => decide (u = x)) x f))) σ) σ 78 [gR 133, gI x, gI f, gJ T2, gX 1, gI i, gJ (A x i), gX 1, gI j, gX 1, gX 1, gX 1] [] := by
                intro m_78
                induction m_78 using Nat.strongRecOn with
                | _ m_78 ih_78 =>
                  intro j T2 hmeas_78 j0 j1 hT2
                  have e2 : sumI (m2t A x f i) (j + 1).toNat = sumI (m2t A x f i) j.toNat + m2t A x f i j := sumI_s j0
                  have pij := hp i j
                  have pjf := hp j f
                  have b2 := mulb (M := 10000) pxi.1 pxi.2 pij.1 pij.2
                  have b3 := mulb (M := 10000 * 10000) b2.1 b2.2 pjf.1 pjf.2
                  refine w_iload (pc' := 80) (by rfl) dX12_partOf_78 rfl ?_
                  refine w_aload_n (pc' := 81) (i := 0) (by rfl) (by rfl) dX12_partOf_80 rfl ?_
                  refine v_getI (pc' := 84) (ji := 6) rfl fg_X12_273 kd_133 dX12_partOf_81 rfl ?_
                  refine w_icmp_ge (pc' := 87) (t := 208) dX12_partOf_84 rfl rfl (fun c_84 => ?_) (fun c_84 => ?_)
                  · skip
                    refine v_iinc (pc' := 211) (x := i) (ls' := [gR 133, gI x, gI f, gJ T2, gX 1, gI (i + 1), gJ (A x i), gX 1, gI j, gX 1, gX 1, gX 1]) (by omega) (by decide) (by rfl) (by rfl) dX12_partOf_208 rfl ?_
                    refine w_goto (pc' := 22) dX12_partOf_211 rfl ?_
                    refine Wp.lose (ls' := [gR 133, gI x, gI f, gJ T2, gX 1, gI (i + 1), gX 1, gX 1, gX 1, gX 1, gX 1, gX 1]) ⟨.inr rfl, ⟨.inr rfl, ⟨.inr rfl, ⟨.inr rfl, ⟨.inr rfl, ⟨.inr rfl, ⟨.inl rfl, ⟨.inr rfl, ⟨.inl rfl, ⟨.inr rfl, ⟨.inr rfl, ⟨.inr rfl, trivial⟩⟩⟩⟩⟩⟩⟩⟩⟩⟩⟩⟩ ?_
                    exact ih_22 _ (by omega) (i + 1) T2 rfl (by omega) (by omega) (by rw [e1]; first | (rw [show m1t A x f i = 0 from if_pos (by omega), Int.add_zero]; exact hT) | (rw [show m1t A x f i = 0 by unfold m1t; rw [gCmp_0.mp c_51, Int.zero_mul, ite_self], Int.add_zero]; exact hT) | (rw [hT2, show j = n by omega, show m1t A x f i = A x i * (A i f * 100000000 + sumI (m2t A x f i) n.toNat) by unfold m1t; rw [if_neg (by omega), mt2_out hout hn0 hn1]]; congr 1; omega))
                  · skip
                    refine w_lload (pc' := 89) (by rfl) dX12_partOf_87 rfl ?_
                    refine w_aload_n (pc' := 90) (i := 0) (by rfl) (by rfl) dX12_partOf_89 rfl ?_
                    refine w_iload (pc' := 92) (by rfl) dX12_partOf_90 rfl ?_
                    refine w_iload (pc' := 94) (by rfl) dX12_partOf_92 rfl ?_
                    refine v_callVE (pc' := 97) (st' := [gI (A i j), gJ (A x i)]) (d' := 0) (av := [gI i, gI j]) mi_mX12_at lk_X12_332 rfl ci_X12 kd_133 rfl (Nat.le_of_ble_eq_true rfl) (Nat.le_of_ble_eq_true rfl) dX12_partOf_94 rfl rfl (q_atA (A := A) hP i j ⟨by omega, by omega⟩ ⟨by omega, by omega⟩) ?_
                    refine w_i2l (pc' := 98) dX12_partOf_97 rfl ?_
                    refine v_lmul (pc' := 99) (by omega) dX12_partOf_98 rfl ?_
                    refine w_lstore (pc' := 101) (ls' := [gR 133, gI x, gI f, gJ T2, gX 1, gI i, gJ (A x i), gX 1, gI j, gJ ((A x i) * (A i j)), gX 1, gX 1]) (by decide) (by rfl) dX12_partOf_99 rfl ?_
                    refine w_iload (pc' := 103) (by rfl) dX12_partOf_101 rfl ?_
                    refine w_iload_n (pc' := 104) (i := 1) (by rfl) (by rfl) dX12_partOf_103 rfl ?_
                    refine w_icmp_eq (pc' := 107) (t := 202) dX12_partOf_104 rfl rfl (fun c_104 => ?_) (fun c_104 => ?_)
                    · skip
                      refine v_iinc (pc' := 205) (x := j) (ls' := [gR 133, gI x, gI f, gJ T2, gX 1, gI i, gJ (A x i), gX 1, gI (j + 1), gJ ((A x i) * (A i j)), gX 1, gX 1]) (by omega) (by decide) (by rfl) (by rfl) dX12_partOf_202 rfl ?_
                      refine w_goto (pc' := 78) dX12_partOf_205 rfl ?_
                      refine Wp.lose (ls' := [gR 133, gI x, gI f, gJ T2, gX 1, gI i, gJ (A x i), gX 1, gI (j + 1), gX 1, gX 1, gX 1]) ⟨.inr rfl, ⟨.inr rfl, ⟨.inr rfl, ⟨.inr rfl, ⟨.inr rfl, ⟨.inr rfl, ⟨.inr rfl, ⟨.inr rfl, ⟨.inr rfl, ⟨.inl rfl, ⟨.inr rfl, ⟨.inr rfl, trivial⟩⟩⟩⟩⟩⟩⟩⟩⟩⟩⟩⟩ ?_
                      exact ih_78 _ (by omega) (j + 1) T2 rfl (by omega) (by omega) (by rw [e2]; first | (rw [show m2t A x f i j = 0 from if_pos (by omega), Int.add_zero]; exact hT2) | (rw [hT2]; congr 1; rw [Int.mul_add, Int.mul_add (A x i), Int.mul_add (A x i), show A x i * m2t A x f i j = 0 by unfold m2t; split; exact Int.mul_zero _; rw [← Int.mul_assoc, gCmp_0.mp c_117, Int.zero_mul]]; omega) | (rw [hT3, show k = n by omega, show m2t A x f i j = A i j * (A j f * 10000 + sumI (m3t A x f i j) n.toNat) by unfold m2t; rw [if_neg (by omega), mt3_out hout hn0 hn1]]; congr 1; rw [Int.mul_assoc (A x i) (A i j)]; generalize A i j * (A j f * 10000 + sumI (m3t A x f i j) n.toNat) = v; rw [← Int.add_assoc, Int.mul_add (A x i) _ v]; omega))
                    · skip
                      refine w_iload (pc' := 109) (by rfl) dX12_partOf_107 rfl ?_
                      refine w_iload_n (pc' := 110) (i := 2) (by rfl) (by rfl) dX12_partOf_109 rfl ?_
                      refine w_icmp_eq (pc' := 113) (t := 202) dX12_partOf_110 rfl rfl (fun c_110 => ?_) (fun c_110 => ?_)
                      · skip
                        refine v_iinc (pc' := 205) (x := j) (ls' := [gR 133, gI x, gI f, gJ T2, gX 1, gI i, gJ (A x i), gX 1, gI (j + 1), gJ ((A x i) * (A i j)), gX 1, gX 1]) (by omega) (by decide) (by rfl) (by rfl) dX12_partOf_202 rfl ?_
                        refine w_goto (pc' := 78) dX12_partOf_205 rfl ?_
                        refine Wp.lose (ls' := [gR 133, gI x, gI f, gJ T2, gX 1, gI i, gJ (A x i), gX 1, gI (j + 1), gX 1, gX 1, gX 1]) ⟨.inr rfl, ⟨.inr rfl, ⟨.inr rfl, ⟨.inr rfl, ⟨.inr rfl, ⟨.inr rfl, ⟨.inr rfl, ⟨.inr rfl, ⟨.inr rfl, ⟨.inl rfl, ⟨.inr rfl, ⟨.inr rfl, trivial⟩⟩⟩⟩⟩⟩⟩⟩⟩⟩⟩⟩ ?_
                        exact ih_78 _ (by omega) (j + 1) T2 rfl (by omega) (by omega) (by rw [e2]; first | (rw [show m2t A x f i j = 0 from if_pos (by omega), Int.add_zero]; exact hT2) | (rw [hT2]; congr 1; rw [Int.mul_add, Int.mul_add (A x i), Int.mul_add (A x i), show A x i * m2t A x f i j = 0 by unfold m2t; split; exact Int.mul_zero _; rw [← Int.mul_assoc, gCmp_0.mp c_117, Int.zero_mul]]; omega) | (rw [hT3, show k = n by omega, show m2t A x f i j = A i j * (A j f * 10000 + sumI (m3t A x f i j) n.toNat) by unfold m2t; rw [if_neg (by omega), mt3_out hout hn0 hn1]]; congr 1; rw [Int.mul_assoc (A x i) (A i j)]; generalize A i j * (A j f * 10000 + sumI (m3t A x f i j) n.toNat) = v; rw [← Int.add_assoc, Int.mul_add (A x i) _ v]; omega))
                      · skip
                        refine w_lload (pc' := 115) (by rfl) dX12_partOf_113 rfl ?_
                        refine w_lconst (n := 0) (pc' := 116) (by decide) (by decide) dX12_partOf_115 rfl ?_
                        refine w_lcmp (pc' := 117) dX12_partOf_116 rfl ?_
                        refine w_if_ne (pc' := 120) (t := 123) dX12_partOf_117 rfl rfl (fun c_117 => ?_) (fun c_117 => ?_)
                        · skip
                          refine w_lload_n (pc' := 124) (i := 3) (by rfl) (by rfl) dX12_partOf_123 rfl ?_
                          refine w_lload (pc' := 126) (by rfl) dX12_partOf_124 rfl ?_
                          refine w_aload_n (pc' := 127) (i := 0) (by rfl) (by rfl) dX12_partOf_126 rfl ?_
                          refine w_iload (pc' := 129) (by rfl) dX12_partOf_127 rfl ?_
                          refine w_iload_n (pc' := 130) (i := 2) (by rfl) (by rfl) dX12_partOf_129 rfl ?_
                          refine v_callVE (pc' := 133) (st' := [gI (A j f), gJ ((A x i) * (A i j)), gJ T2]) (d' := 0) (av := [gI j, gI f]) mi_mX12_at lk_X12_332 rfl ci_X12 kd_133 rfl (Nat.le_of_ble_eq_true rfl) (Nat.le_of_ble_eq_true rfl) dX12_partOf_130 rfl rfl (q_atA (A := A) hP j f ⟨by omega, by omega⟩ ⟨by omega, by omega⟩) ?_
                          refine w_i2l (pc' := 134) dX12_partOf_133 rfl ?_
                          refine v_lmul (pc' := 135) (by omega) dX12_partOf_134 rfl ?_
                          refine w_ldc2 (pc' := 138) (by decide) ct_X12_342 dX12_partOf_135 rfl ?_
                          refine v_lmul (pc' := 139) (by omega) dX12_partOf_138 rfl ?_
                          refine w_ladd (pc' := 140) dX12_partOf_139 rfl ?_
                          refine w_lstore_n (pc' := 141) (i := 3) (ls' := [gR 133, gI x, gI f, gJ (w64 (T2 + ((((A x i) * (A i j)) * (A j f)) * 10000))), gX 1, gI i, gJ (A x i), gX 1, gI j, gJ ((A x i) * (A i j)), gX 1, gX 1]) (by rfl) (by decide) (by rfl) dX12_partOf_140 rfl ?_
                          refine w_iconst (pc' := 142) (by decide) dX12_partOf_141 rfl ?_
                          refine w_istore (pc' := 144) (ls' := [gR 133, gI x, gI f, gJ (w64 (T2 + ((((A x i) * (A i j)) * (A j f)) * 10000))), gX 1, gI i, gJ (A x i), gX 1, gI j, gJ ((A x i) * (A i j)), gX 1, gI 0]) (by decide) (by rfl) dX12_partOf_142 rfl ?_
                          have hl_144 : ∀ (mm : Nat) (k T3 : Int), (n - k).toNat = mm → (0 ≤ k) → (k ≤ n) → (T3 = w64 (A x f * 1000000000000 + sumI (m1t A x f) i.toNat + A x i * (A i f * 100000000 + sumI (m2t A x f i) j.toNat) + A x i * A i j * (A j f * 10000 + sumI (m3t A x f i j) k.toNat))) → Wp mX12_partOf 1 (rE (gJ (w64 (pS A 4 (fun u => decide (u = x)) x f))) σ) σ 144 [gR 133, gI x, gI f, gJ T3, gX 1, gI i, gJ (A x i), gX 1, gI j, gJ ((A x i) * (A i j)), gX 1, gI k] [] := by
                            intro m_144
                            induction m_144 using Nat.strongRecOn with
                            | _ m_144 ih_144 =>
                              intro k T3 hmeas_144 k0 k1 hT3
                              have e3 : sumI (m3t A x f i j) (k + 1).toNat = sumI (m3t A x f i j) k.toNat + m3t A x f i j k := sumI_s k0
                              have pjk := hp j k
                              have pkf := hp k f
                              have b4 := mulb (M := 10000 * 10000) b2.1 b2.2 pjk.1 pjk.2
                              have b5 := mulb (M := 10000 * 10000 * 10000) b4.1 b4.2 pkf.1 pkf.2
                              refine w_iload (pc' := 146) (by rfl) dX12_partOf_144 rfl ?_
                              refine w_aload_n (pc' := 147) (i := 0) (by rfl) (by rfl) dX12_partOf_146 rfl ?_
                              refine v_getI (pc' := 150) (ji := 6) rfl fg_X12_273 kd_133 dX12_partOf_147 rfl ?_
                              refine w_icmp_ge (pc' := 153) (t := 202) dX12_partOf_150 rfl rfl (fun c_150 => ?_) (fun c_150 => ?_)
                              · skip
                                refine v_iinc (pc' := 205) (x := j) (ls' := [gR 133, gI x, gI f, gJ T3, gX 1, gI i, gJ (A x i), gX 1, gI (j + 1), gJ ((A x i) * (A i j)), gX 1, gI k]) (by omega) (by decide) (by rfl) (by rfl) dX12_partOf_202 rfl ?_
                                refine w_goto (pc' := 78) dX12_partOf_205 rfl ?_
                                refine Wp.lose (ls' := [gR 133, gI x, gI f, gJ T3, gX 1, gI i, gJ (A x i), gX 1, gI (j + 1), gX 1, gX 1, gX 1]) ⟨.inr rfl, ⟨.inr rfl, ⟨.inr rfl, ⟨.inr rfl, ⟨.inr rfl, ⟨.inr rfl, ⟨.inr rfl, ⟨.inr rfl, ⟨.inr rfl, ⟨.inl rfl, ⟨.inr rfl, ⟨.inl rfl, trivial⟩⟩⟩⟩⟩⟩⟩⟩⟩⟩⟩⟩ ?_
                                exact ih_78 _ (by omega) (j + 1) T3 rfl (by omega) (by omega) (by rw [e2]; first | (rw [show m2t A x f i j = 0 from if_pos (by omega), Int.add_zero]; exact hT2) | (rw [hT2]; congr 1; rw [Int.mul_add, Int.mul_add (A x i), Int.mul_add (A x i), show A x i * m2t A x f i j = 0 by unfold m2t; split; exact Int.mul_zero _; rw [← Int.mul_assoc, gCmp_0.mp c_117, Int.zero_mul]]; omega) | (rw [hT3, show k = n by omega, show m2t A x f i j = A i j * (A j f * 10000 + sumI (m3t A x f i j) n.toNat) by unfold m2t; rw [if_neg (by omega), mt3_out hout hn0 hn1]]; congr 1; rw [Int.mul_assoc (A x i) (A i j)]; generalize A i j * (A j f * 10000 + sumI (m3t A x f i j) n.toNat) = v; rw [← Int.add_assoc, Int.mul_add (A x i) _ v]; omega))
                              · skip
                                refine w_iload (pc' := 155) (by rfl) dX12_partOf_153 rfl ?_
                                refine w_iload_n (pc' := 156) (i := 1) (by rfl) (by rfl) dX12_partOf_155 rfl ?_
                                refine w_icmp_eq (pc' := 159) (t := 196) dX12_partOf_156 rfl rfl (fun c_156 => ?_) (fun c_156 => ?_)
                                · skip
                                  refine v_iinc (pc' := 199) (x := k) (ls' := [gR 133, gI x, gI f, gJ T3, gX 1, gI i, gJ (A x i), gX 1, gI j, gJ ((A x i) * (A i j)), gX 1, gI (k + 1)]) (by omega) (by decide) (by rfl) (by rfl) dX12_partOf_196 rfl ?_
                                  refine w_goto (pc' := 144) dX12_partOf_199 rfl ?_
                                  exact ih_144 _ (by omega) (k + 1) T3 rfl (by omega) (by omega) (by rw [e3]; first | (rw [show m3t A x f i j k = 0 from if_pos (by omega), Int.add_zero]; exact hT3) | (rw [hT3, w64_add, show m3t A x f i j k = A j k * A k f from if_neg (by omega), Int.mul_assoc (A x i * A i j) (A j k)]; congr 1; generalize A j k * A k f = v; rw [← Int.add_assoc (A j f * 10000), Int.mul_add (A x i * A i j) _ v]; omega))
                                · skip
                                  refine w_iload (pc' := 161) (by rfl) dX12_partOf_159 rfl ?_
                                  refine w_iload_n (pc' := 162) (i := 2) (by rfl) (by rfl) dX12_partOf_161 rfl ?_
                                  refine w_icmp_eq (pc' := 165) (t := 196) dX12_partOf_162 rfl rfl (fun c_162 => ?_) (fun c_162 => ?_)
                                  · skip
                                    refine v_iinc (pc' := 199) (x := k) (ls' := [gR 133, gI x, gI f, gJ T3, gX 1, gI i, gJ (A x i), gX 1, gI j, gJ ((A x i) * (A i j)), gX 1, gI (k + 1)]) (by omega) (by decide) (by rfl) (by rfl) dX12_partOf_196 rfl ?_
                                    refine w_goto (pc' := 144) dX12_partOf_199 rfl ?_
                                    exact ih_144 _ (by omega) (k + 1) T3 rfl (by omega) (by omega) (by rw [e3]; first | (rw [show m3t A x f i j k = 0 from if_pos (by omega), Int.add_zero]; exact hT3) | (rw [hT3, w64_add, show m3t A x f i j k = A j k * A k f from if_neg (by omega), Int.mul_assoc (A x i * A i j) (A j k)]; congr 1; generalize A j k * A k f = v; rw [← Int.add_assoc (A j f * 10000), Int.mul_add (A x i * A i j) _ v]; omega))
                                  · skip
                                    refine w_iload (pc' := 167) (by rfl) dX12_partOf_165 rfl ?_
                                    refine w_iload (pc' := 169) (by rfl) dX12_partOf_167 rfl ?_
                                    refine w_icmp_eq (pc' := 172) (t := 196) dX12_partOf_169 rfl rfl (fun c_169 => ?_) (fun c_169 => ?_)
                                    · skip
                                      refine v_iinc (pc' := 199) (x := k) (ls' := [gR 133, gI x, gI f, gJ T3, gX 1, gI i, gJ (A x i), gX 1, gI j, gJ ((A x i) * (A i j)), gX 1, gI (k + 1)]) (by omega) (by decide) (by rfl) (by rfl) dX12_partOf_196 rfl ?_
                                      refine w_goto (pc' := 144) dX12_partOf_199 rfl ?_
                                      exact ih_144 _ (by omega) (k + 1) T3 rfl (by omega) (by omega) (by rw [e3]; first | (rw [show m3t A x f i j k = 0 from if_pos (by omega), Int.add_zero]; exact hT3) | (rw [hT3, w64_add, show m3t A x f i j k = A j k * A k f from if_neg (by omega), Int.mul_assoc (A x i * A i j) (A j k)]; congr 1; generalize A j k * A k f = v; rw [← Int.add_assoc (A j f * 10000), Int.mul_add (A x i * A i j) _ v]; omega))
                                    · skip
                                      refine w_lload_n (pc' := 173) (i := 3) (by rfl) (by rfl) dX12_partOf_172 rfl ?_
                                      refine w_lload (pc' := 175) (by rfl) dX12_partOf_173 rfl ?_
                                      refine w_aload_n (pc' := 176) (i := 0) (by rfl) (by rfl) dX12_partOf_175 rfl ?_
                                      refine w_iload (pc' := 178) (by rfl) dX12_partOf_176 rfl ?_
                                      refine w_iload (pc' := 180) (by rfl) dX12_partOf_178 rfl ?_
                                      refine v_callVE (pc' := 183) (st' := [gI (A j k), gJ ((A x i) * (A i j)), gJ T3]) (d' := 0) (av := [gI j, gI k]) mi_mX12_at lk_X12_332 rfl ci_X12 kd_133 rfl (Nat.le_of_ble_eq_true rfl) (Nat.le_of_ble_eq_true rfl) dX12_partOf_180 rfl rfl (q_atA (A := A) hP j k ⟨by omega, by omega⟩ ⟨by omega, by omega⟩) ?_
                                      refine w_i2l (pc' := 184) dX12_partOf_183 rfl ?_
                                      refine v_lmul (pc' := 185) (by omega) dX12_partOf_184 rfl ?_
                                      refine w_aload_n (pc' := 186) (i := 0) (by rfl) (by rfl) dX12_partOf_185 rfl ?_
                                      refine w_iload (pc' := 188) (by rfl) dX12_partOf_186 rfl ?_
                                      refine w_iload_n (pc' := 189) (i := 2) (by rfl) (by rfl) dX12_partOf_188 rfl ?_
                                      refine v_callVE (pc' := 192) (st' := [gI (A k f), gJ (((A x i) * (A i j)) * (A j k)), gJ T3]) (d' := 0) (av := [gI k, gI f]) mi_mX12_at lk_X12_332 rfl ci_X12 kd_133 rfl (Nat.le_of_ble_eq_true rfl) (Nat.le_of_ble_eq_true rfl) dX12_partOf_189 rfl rfl (q_atA (A := A) hP k f ⟨by omega, by omega⟩ ⟨by omega, by omega⟩) ?_
                                      refine w_i2l (pc' := 193) dX12_partOf_192 rfl ?_
                                      refine v_lmul (pc' := 194) (by omega) dX12_partOf_193 rfl ?_
                                      refine w_ladd (pc' := 195) dX12_partOf_194 rfl ?_
                                      refine w_lstore_n (pc' := 196) (i := 3) (ls' := [gR 133, gI x, gI f, gJ (w64 (T3 + ((((A x i) * (A i j)) * (A j k)) * (A k f)))), gX 1, gI i, gJ (A x i), gX 1, gI j, gJ ((A x i) * (A i j)), gX 1, gI k]) (by rfl) (by decide) (by rfl) dX12_partOf_195 rfl ?_
                                      refine v_iinc (pc' := 199) (x := k) (ls' := [gR 133, gI x, gI f, gJ (w64 (T3 + ((((A x i) * (A i j)) * (A j k)) * (A k f)))), gX 1, gI i, gJ (A x i), gX 1, gI j, gJ ((A x i) * (A i j)), gX 1, gI (k + 1)]) (by omega) (by decide) (by rfl) (by rfl) dX12_partOf_196 rfl ?_
                                      refine w_goto (pc' := 144) dX12_partOf_199 rfl ?_
                                      exact ih_144 _ (by omega) (k + 1) (w64 (T3 + ((((A x i) * (A i j)) * (A j k)) * (A k f)))) rfl (by omega) (by omega) (by rw [e3]; first | (rw [show m3t A x f i j k = 0 from if_pos (by omega), Int.add_zero]; exact hT3) | (rw [hT3, w64_add, show m3t A x f i j k = A j k * A k f from if_neg (by omega), Int.mul_assoc (A x i * A i j) (A j k)]; congr 1; generalize A j k * A k f = v; rw [← Int.add_assoc (A j f * 10000), Int.mul_add (A x i * A i j) _ v]; omega))
                          exact hl_144 _ 0 (w64 (T2 + ((((A x i) * (A i j)) * (A j f)) * 10000))) rfl (by omega) (by omega) (by rw [hT2, w64_add]; show _ = w64 (A x f * 1000000000000 + sumI (m1t A x f) i.toNat + A x i * (A i f * 100000000 + sumI (m2t A x f i) j.toNat) + A x i * A i j * (A j f * 10000 + 0)); rw [Int.add_zero, ← Int.mul_assoc (A x i * A i j)])
                        · skip
                          refine w_goto (pc' := 202) dX12_partOf_120 rfl ?_
                          refine v_iinc (pc' := 205) (x := j) (ls' := [gR 133, gI x, gI f, gJ T2, gX 1, gI i, gJ (A x i), gX 1, gI (j + 1), gJ ((A x i) * (A i j)), gX 1, gX 1]) (by omega) (by decide) (by rfl) (by rfl) dX12_partOf_202 rfl ?_
                          refine w_goto (pc' := 78) dX12_partOf_205 rfl ?_
                          refine Wp.lose (ls' := [gR 133, gI x, gI f, gJ T2, gX 1, gI i, gJ (A x i), gX 1, gI (j + 1), gX 1, gX 1, gX 1]) ⟨.inr rfl, ⟨.inr rfl, ⟨.inr rfl, ⟨.inr rfl, ⟨.inr rfl, ⟨.inr rfl, ⟨.inr rfl, ⟨.inr rfl, ⟨.inr rfl, ⟨.inl rfl, ⟨.inr rfl, ⟨.inr rfl, trivial⟩⟩⟩⟩⟩⟩⟩⟩⟩⟩⟩⟩ ?_
                          exact ih_78 _ (by omega) (j + 1) T2 rfl (by omega) (by omega) (by rw [e2]; first | (rw [show m2t A x f i j = 0 from if_pos (by omega), Int.add_zero]; exact hT2) | (rw [hT2]; congr 1; rw [Int.mul_add, Int.mul_add (A x i), Int.mul_add (A x i), show A x i * m2t A x f i j = 0 by unfold m2t; split; exact Int.mul_zero _; rw [← Int.mul_assoc, gCmp_0.mp c_117, Int.zero_mul]]; omega) | (rw [hT3, show k = n by omega, show m2t A x f i j = A i j * (A j f * 10000 + sumI (m3t A x f i j) n.toNat) by unfold m2t; rw [if_neg (by omega), mt3_out hout hn0 hn1]]; congr 1; rw [Int.mul_assoc (A x i) (A i j)]; generalize A i j * (A j f * 10000 + sumI (m3t A x f i j) n.toNat) = v; rw [← Int.add_assoc, Int.mul_add (A x i) _ v]; omega))
              exact hl_78 _ 0 (w64 (T + (((A x i) * (A i f)) * 100000000))) rfl (by omega) (by omega) (by rw [hT, w64_add]; show _ = w64 (A x f * 1000000000000 + sumI (m1t A x f) i.toNat + A x i * (A i f * 100000000 + 0)); rw [Int.add_zero, Int.mul_assoc])
            · skip
              refine w_goto (pc' := 208) dX12_partOf_54 rfl ?_
              refine v_iinc (pc' := 211) (x := i) (ls' := [gR 133, gI x, gI f, gJ T, gX 1, gI (i + 1), gJ (A x i), gX 1, gX 1, gX 1, gX 1, gX 1]) (by omega) (by decide) (by rfl) (by rfl) dX12_partOf_208 rfl ?_
              refine w_goto (pc' := 22) dX12_partOf_211 rfl ?_
              refine Wp.lose (ls' := [gR 133, gI x, gI f, gJ T, gX 1, gI (i + 1), gX 1, gX 1, gX 1, gX 1, gX 1, gX 1]) ⟨.inr rfl, ⟨.inr rfl, ⟨.inr rfl, ⟨.inr rfl, ⟨.inr rfl, ⟨.inr rfl, ⟨.inl rfl, ⟨.inr rfl, ⟨.inr rfl, ⟨.inr rfl, ⟨.inr rfl, ⟨.inr rfl, trivial⟩⟩⟩⟩⟩⟩⟩⟩⟩⟩⟩⟩ ?_
              exact ih_22 _ (by omega) (i + 1) T rfl (by omega) (by omega) (by rw [e1]; first | (rw [show m1t A x f i = 0 from if_pos (by omega), Int.add_zero]; exact hT) | (rw [show m1t A x f i = 0 by unfold m1t; rw [gCmp_0.mp c_51, Int.zero_mul, ite_self], Int.add_zero]; exact hT) | (rw [hT2, show j = n by omega, show m1t A x f i = A x i * (A i f * 100000000 + sumI (m2t A x f i) n.toNat) by unfold m1t; rw [if_neg (by omega), mt2_out hout hn0 hn1]]; congr 1; omega))
    exact hl_22 _ 0 ((A x f) * 1000000000000) rfl (by omega) (by omega) (by show _ = w64 (A x f * 1000000000000 + 0); rw [Int.add_zero]; exact (w64_id (by constructor <;> omega)).symm)
  · skip
    refine w_lconst (n := 0) (pc' := 6) (by decide) (by decide) dX12_partOf_5 rfl ?_
    refine w_lreturn rfl dX12_partOf_6 ?_
    rw [show x = f by omega, pS_vis 4 _ f (by simp)]
    exact ⟨rfl, rfl⟩
theorem qo_areParties {σ0 σ : gH} (hI : Inv σ0) (hq : QM σ0 σ) (x f : Int) : Mt mX12_areParties 1 [gR 133, gI x, gI f] σ (rE (gI (gb ((0 ≤ x ∧ x < σ0 3 2) ∧ 0 ≤ f ∧ f < σ0 3 2))) σ) := by
  refine Mt.walk (ls := [gR 133, gI x, gI f]) pn_X12 rfl (fun _ _ h => by cases h.1) (Nat.le_of_ble_eq_true rfl) rfl ?_
  refine w_aload_n (pc' := 1) (i := 0) (by rfl) (by rfl) dX12_areParties_0 rfl ?_
  have hj_21 : Wp mX12_areParties 1 (rE (gI (gb ((0 ≤ x ∧ x < σ0 3 2) ∧ 0 ≤ f ∧ f < σ0 3 2))) σ) σ 21 [gR 133, gI x, gI f] [gI (gb ((0 ≤ x ∧ x < σ0 3 2) ∧ 0 ≤ f ∧ f < σ0 3 2))] := by
    refine v_zretB rfl dX12_areParties_21 ?_
    exact ⟨rfl, rfl⟩
  refine w_iload_n (pc' := 2) (i := 1) (by rfl) (by rfl) dX12_areParties_1 rfl ?_
  refine v_callVE (pc' := 5) (st' := [gI (gb (0 ≤ x ∧ x < σ0 3 2))]) (d' := 0) (av := [gI x]) mi_mX12_isParty lk_X12_276 rfl ci_X12 kd_133 rfl (Nat.le_of_ble_eq_true rfl) (Nat.le_of_ble_eq_true rfl) dX12_areParties_2 rfl rfl (qo_isParty hI hq.1 x) ?_
  refine v_if_eqB (pc' := 8) (t := 20) dX12_areParties_5 rfl rfl (fun c_5 => ?_) (fun c_5 => ?_)
  · skip
    refine w_iconst (pc' := 21) (by decide) dX12_areParties_20 rfl ?_
    exact Wp.stI (by first | (exfalso; omega) | exact (gb_f (P := (0 ≤ x ∧ x < σ0 3 2) ∧ 0 ≤ f ∧ f < σ0 3 2) (by omega)).symm) hj_21
  · skip
    refine w_aload_n (pc' := 9) (i := 0) (by rfl) (by rfl) dX12_areParties_8 rfl ?_
    refine w_iload_n (pc' := 10) (i := 2) (by rfl) (by rfl) dX12_areParties_9 rfl ?_
    refine v_callVE (pc' := 13) (st' := [gI (gb (0 ≤ f ∧ f < σ0 3 2))]) (d' := 0) (av := [gI f]) mi_mX12_isParty lk_X12_276 rfl ci_X12 kd_133 rfl (Nat.le_of_ble_eq_true rfl) (Nat.le_of_ble_eq_true rfl) dX12_areParties_10 rfl rfl (qo_isParty hI hq.1 f) ?_
    refine v_if_eqB (pc' := 16) (t := 20) dX12_areParties_13 rfl rfl (fun c_13 => ?_) (fun c_13 => ?_)
    · skip
      refine w_iconst (pc' := 21) (by decide) dX12_areParties_20 rfl ?_
      exact Wp.stI (by first | (exfalso; omega) | exact (gb_f (P := (0 ≤ x ∧ x < σ0 3 2) ∧ 0 ≤ f ∧ f < σ0 3 2) (by omega)).symm) hj_21
    · skip
      refine w_iconst (pc' := 17) (by decide) dX12_areParties_16 rfl ?_
      refine w_goto (pc' := 21) dX12_areParties_17 rfl ?_
      exact Wp.stI (by first | (exfalso; omega) | exact (gb_t (P := (0 ≤ x ∧ x < σ0 3 2) ∧ 0 ≤ f ∧ f < σ0 3 2) (by omega)).symm) hj_21
theorem x_part {σ0 : gH} (hI : Inv σ0) (x f d t : Int) : Mt mX11_part 30 [gR 0, gI x, gI f, gI d, gI t] σ0 (fun v σ' => v = gJ (if ((0 ≤ x ∧ x < σ0 3 2) ∧ 0 ≤ f ∧ f < σ0 3 2) ∧ 0 ≤ d ∧ d ≤ 9999 then w64 (pS (AR σ0 d t) 4 (fun u => decide (u = x)) x f) else -1) ∧ QC σ0 σ') := by
  refine Mt.walk (ls := [gR 0, gI x, gI f, gI d, gI t]) pn_X11 rfl (fun _ _ h => by cases h.1) (Nat.le_of_ble_eq_true rfl) rfl ?_
  have hp := hI.f.hp
  have hp0 := hI.f.party.2.1
  refine w_aload_n (pc' := 1) (i := 0) (by rfl) (by rfl) dX11_part_0 rfl ?_
  refine w_getS (pc' := 4) (q := 3) fg_X11_21 kd_0 sf_X11_5 gr_0_5 dX11_part_1 rfl ?_
  refine w_iload_n (pc' := 5) (i := 1) (by rfl) (by rfl) dX11_part_4 rfl ?_
  refine v_callVE (pc' := 8) (st' := [gI (gb (0 ≤ x ∧ x < (σ0 3 2)))]) (d' := 0) (av := [gI x]) mi_mX8_has lk_X11_111 rfl ci_X8 kd_3 rfl (Nat.le_of_ble_eq_true rfl) (Nat.le_of_ble_eq_true rfl) dX11_part_5 rfl rfl (hmP (F := fun z => gI (gb (0 ≤ x ∧ x < (z 3 2)))) ((QC.refl hI).1) (fun _ => rfl) (pa_has σ0 (hm_FA ((QC.refl hI).1) hI.1).1.hp x)) ?_
  refine v_if_eqB (pc' := 11) (t := 29) dX11_part_8 rfl rfl (fun c_8 => ?_) (fun c_8 => ?_)
  · skip
    refine w_ldc2 (pc' := 32) (by decide) ct_X11_168 dX11_part_29 rfl ?_
    refine w_lreturn rfl dX11_part_32 ?_
    exact ⟨by rw [if_neg (by omega)], QC.refl hI⟩
  · skip
    refine w_aload_n (pc' := 12) (i := 0) (by rfl) (by rfl) dX11_part_11 rfl ?_
    refine w_getS (pc' := 15) (q := 3) fg_X11_21 kd_0 sf_X11_5 gr_0_5 dX11_part_12 rfl ?_
    refine w_iload_n (pc' := 16) (i := 2) (by rfl) (by rfl) dX11_part_15 rfl ?_
    refine v_callVE (pc' := 19) (st' := [gI (gb (0 ≤ f ∧ f < (σ0 3 2)))]) (d' := 0) (av := [gI f]) mi_mX8_has lk_X11_111 rfl ci_X8 kd_3 rfl (Nat.le_of_ble_eq_true rfl) (Nat.le_of_ble_eq_true rfl) dX11_part_16 rfl rfl (hmP (F := fun z => gI (gb (0 ≤ f ∧ f < (z 3 2)))) ((QC.refl hI).1) (fun _ => rfl) (pa_has σ0 (hm_FA ((QC.refl hI).1) hI.1).1.hp f)) ?_
    refine v_if_eqB (pc' := 22) (t := 29) dX11_part_19 rfl rfl (fun c_19 => ?_) (fun c_19 => ?_)
    · skip
      refine w_ldc2 (pc' := 32) (by decide) ct_X11_168 dX11_part_29 rfl ?_
      refine w_lreturn rfl dX11_part_32 ?_
      exact ⟨by rw [if_neg (by omega)], QC.refl hI⟩
    · skip
      refine w_iload_n (pc' := 23) (i := 3) (by rfl) (by rfl) dX11_part_22 rfl ?_
      refine v_callSE (pc' := 26) (st' := [gI (gb (0 ≤ d ∧ d ≤ 9999))]) (d' := 0) (av := [gI d]) ms_mX11_isDay st_mX11_isDay lk_X11_129 rfl rfl (Nat.le_of_ble_eq_true rfl) (Nat.le_of_ble_eq_true rfl) dX11_part_23 rfl rfl (cl_isDay σ0 d) ?_
      refine v_if_neB (pc' := 29) (t := 33) dX11_part_26 rfl rfl (fun c_26 => ?_) (fun c_26 => ?_)
      · skip
        refine w_aload_n (pc' := 34) (i := 0) (by rfl) (by rfl) dX11_part_33 rfl ?_
        refine w_getS (pc' := 37) (q := 30) fg_X11_35 kd_0 sf_X11_7 gr_0_7 dX11_part_34 rfl ?_
        refine w_iload_n (pc' := 38) (i := 1) (by rfl) (by rfl) dX11_part_37 rfl ?_
        refine w_iload_n (pc' := 39) (i := 2) (by rfl) (by rfl) dX11_part_38 rfl ?_
        refine w_iload_n (pc' := 40) (i := 3) (by rfl) (by rfl) dX11_part_39 rfl ?_
        refine w_iload (pc' := 42) (by rfl) dX11_part_40 rfl ?_
        refine w_callV (pc' := 45) (d' := 7) (av := [gI x, gI f, gI d, gI t]) mi_mX0_partOf lk_X11_170 rfl ci_X0 kd_30 rfl (Nat.le_of_ble_eq_true rfl) (Nat.le_of_ble_eq_true rfl) dX11_part_42 rfl (k_partOf hI (QC.refl hI) x f d t ⟨by omega, by omega⟩ ⟨by omega, by omega⟩) (fun v_42 σ42 q_42 => ?_)
        obtain ⟨rfl, hq_42, hk_42⟩ := q_42
        show Wp _ _ _ _ _ _ [gJ (w64 (pS (AR σ0 d t) 4 (fun u => decide (u = x)) x f))]
        refine w_lreturn rfl dX11_part_45 ?_
        exact ⟨by rw [if_pos (by omega)], hq_42⟩
      · skip
        refine w_ldc2 (pc' := 32) (by decide) ct_X11_168 dX11_part_29 rfl ?_
        refine w_lreturn rfl dX11_part_32 ?_
        exact ⟨by rw [if_neg (by omega)], QC.refl hI⟩
theorem m_part {σ0 : gH} (hI : Inv σ0) (x f d t : Int) : Mt mX12_part 30 [gR 133, gI x, gI f, gI d, gI t] σ0 (fun v σ' => v = gJ (if ((0 ≤ x ∧ x < σ0 3 2) ∧ 0 ≤ f ∧ f < σ0 3 2) ∧ 0 ≤ d ∧ d ≤ 9999 then w64 (pS (AR σ0 d t) 4 (fun u => decide (u = x)) x f) else -1) ∧ QM σ0 σ') := by
  refine Mt.walk (ls := [gR 133, gI x, gI f, gI d, gI t]) pn_X12 rfl (fun _ _ h => by cases h.1) (Nat.le_of_ble_eq_true rfl) rfl ?_
  have hp := hI.f.hp
  have hp0 := hI.f.party.2.1
  refine w_aload_n (pc' := 1) (i := 0) (by rfl) (by rfl) dX12_part_0 rfl ?_
  refine w_iconst (pc' := 2) (by decide) dX12_part_1 rfl ?_
  refine v_putI (pc' := 5) (ji := 0) rfl fp_X12_244 kd_133 sf_X12_0 dX12_part_2 rfl ?_
  refine w_aload_n (pc' := 6) (i := 0) (by rfl) (by rfl) dX12_part_5 rfl ?_
  refine w_iload_n (pc' := 7) (i := 1) (by rfl) (by rfl) dX12_part_6 rfl ?_
  refine w_iload_n (pc' := 8) (i := 2) (by rfl) (by rfl) dX12_part_7 rfl ?_
  refine v_callVE (pc' := 11) (st' := [gI (gb ((0 ≤ x ∧ x < σ0 3 2) ∧ 0 ≤ f ∧ f < σ0 3 2))]) (d' := 1) (av := [gI x, gI f]) mi_mX12_areParties lk_X12_344 rfl ci_X12 kd_133 rfl (Nat.le_of_ble_eq_true rfl) (Nat.le_of_ble_eq_true rfl) dX12_part_8 rfl rfl (qo_areParties hI (QM.up (k := 133) (i := 0) (v := 0) (QM.refl hI) (by decide) (fun h => h)) x f) ?_
  refine v_if_eqB (pc' := 14) (t := 21) dX12_part_11 rfl rfl (fun c_11 => ?_) (fun c_11 => ?_)
  · skip
    refine w_ldc2 (pc' := 24) (by decide) ct_X12_347 dX12_part_21 rfl ?_
    refine w_lreturn rfl dX12_part_24 ?_
    exact ⟨by rw [if_neg (by omega)], QM.up (QM.refl hI) (by decide) (fun h => h)⟩
  · skip
    refine w_iload_n (pc' := 15) (i := 3) (by rfl) (by rfl) dX12_part_14 rfl ?_
    refine v_callSE (pc' := 18) (st' := [gI (gb (0 ≤ d ∧ d ≤ 9999))]) (d' := 0) (av := [gI d]) ms_mX12_isDay st_mX12_isDay lk_X12_279 rfl rfl (Nat.le_of_ble_eq_true rfl) (Nat.le_of_ble_eq_true rfl) dX12_part_15 rfl rfl (mo_isDay (gUp σ0 133 0 0) d) ?_
    refine v_if_neB (pc' := 21) (t := 25) dX12_part_18 rfl rfl (fun c_18 => ?_) (fun c_18 => ?_)
    · skip
      refine w_aload_n (pc' := 26) (i := 0) (by rfl) (by rfl) dX12_part_25 rfl ?_
      refine w_iload_n (pc' := 27) (i := 3) (by rfl) (by rfl) dX12_part_26 rfl ?_
      refine w_iload (pc' := 29) (by rfl) dX12_part_27 rfl ?_
      refine w_callV (pc' := 32) (d' := 2) (av := [gI d, gI t]) mi_mX12_work lk_X12_349 rfl ci_X12 kd_133 rfl (Nat.le_of_ble_eq_true rfl) (Nat.le_of_ble_eq_true rfl) dX12_part_29 rfl (q_work hI (QM.up (k := 133) (i := 0) (v := 0) (QM.refl hI) (by decide) (fun h => h)) d t) (fun v_29 σ29 q_29 => ?_)
      obtain ⟨rfl, hq_29, hk_29, hw_29⟩ := q_29
      show Wp _ _ _ _ _ _ []
      refine w_aload_n (pc' := 33) (i := 0) (by rfl) (by rfl) dX12_part_32 rfl ?_
      refine w_iload_n (pc' := 34) (i := 1) (by rfl) (by rfl) dX12_part_33 rfl ?_
      refine w_iload_n (pc' := 35) (i := 2) (by rfl) (by rfl) dX12_part_34 rfl ?_
      refine v_callVE (pc' := 38) (st' := [gJ (w64 (pS (AR σ0 d t) 4 (fun u => decide (u = x)) x f))]) (d' := 1) (av := [gI x, gI f]) mi_mX12_partOf lk_X12_353 rfl ci_X12 kd_133 rfl (Nat.le_of_ble_eq_true rfl) (Nat.le_of_ble_eq_true rfl) dX12_part_35 rfl rfl (q_partOf (A := AR σ0 d t) (n := σ0 3 2) (fun x f a b c e => (hw_29.1 x f a b c e).1) (fun c f => AR_in hI d t c f) ((hq_29.rd (.inr rfl)).trans hI.f6) (by omega) (by omega) (fun g f h => AR_out hI (by omega)) (fun y => AR_out hI (by omega)) x f ⟨by omega, by omega⟩ ⟨by omega, by omega⟩) ?_
      refine w_lreturn rfl dX12_part_38 ?_
      exact ⟨by rw [if_pos (by omega)], hq_29⟩
    · skip
      refine w_ldc2 (pc' := 24) (by decide) ct_X12_347 dX12_part_21 rfl ?_
      refine w_lreturn rfl dX12_part_24 ?_
      exact ⟨by rw [if_neg (by omega)], QM.up (QM.refl hI) (by decide) (fun h => h)⟩
theorem ci_part (x f d t : Int) : CJ Inv mX11_part mX12_part [gI x, gI f, gI d, gI t] := CJ_query (fun σ0 => if ((0 ≤ x ∧ x < σ0 3 2) ∧ 0 ≤ f ∧ f < σ0 3 2) ∧ 0 ≤ d ∧ d ≤ 9999 then w64 (pS (AR σ0 d t) 4 (fun u => decide (u = x)) x f) else -1) (fun σ0 hI => x_part hI x f d t) (fun σ0 hI => m_part hI x f d t) (fun _ => rfl)
