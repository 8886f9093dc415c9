/-! the reference reads a law: nots that wait (gen/mod_mtn.py) -/
/-- n marks v behind place a of a row -/
def pfl (R : Int → Int) (a n v : Int) : Int → Int := fun j => if a ≤ j ∧ j < a + n then v else R j
theorem pfl_0 {R : Int → Int} {a v : Int} : pfl R a 0 v = R := funext fun j => if_neg (by omega)
theorem pfl_s {R : Int → Int} {a n v : Int} (h : 0 ≤ n) : updI (pfl R a n v) (a + n) v = pfl R a (n + 1) v := funext fun j => by
  unfold updI pfl
  by_cases c : j = a + n
  · rw [if_pos c, if_pos (by omega)]
  · rw [if_neg c]
    by_cases d : a ≤ j ∧ j < a + n
    · rw [if_pos d, if_pos (by omega)]
    · rw [if_neg d, if_neg (by omega)]
/-- from m on all that waits are nots, and what is below isn't one -/
def NTS (W : Int → Int) (x n m : Int) : Prop := (0 ≤ m ∧ m ≤ n) ∧ (∀ i, m ≤ i → i < n → W i = x) ∧ (0 < m → W (m - 1) ≠ x)
theorem rowsT {σ : gH} : σ = gUp (gUp (gUr (gUp σ 133 79 (σ 133 79)) 180 (σ 180)) 133 83 (σ 133 83)) 133 80 (σ 133 80) := by
  rw [show gUp σ 133 79 (σ 133 79) = σ from gUp_id, show gUr σ 180 (σ 180) = σ from gUr_id, show gUp σ 133 83 (σ 133 83) = σ from gUp_id, show gUp σ 133 80 (σ 133 80) = σ from gUp_id]
theorem mp_turnNots {σ : gH} (ht : 0 ≤ (σ 133 79) ∧ (σ 133 79) ≤ 140) (hp : 0 ≤ (σ 133 83) ∧ (σ 133 83) + (σ 133 79) ≤ 200) (hob : -1000 ≤ (σ 133 80) ∧ (σ 133 80) ≤ 1000) : Mt mX12_turnNots 2 [gR 133] σ (fun v σ' => ∃ m, v = gX 1 ∧ NTS (σ 186) 20 (σ 133 79) m ∧ σ' = gUp (gUp (gUr (gUp σ 133 79 m) 180 (pfl (σ 180) (1200 + (σ 133 83)) ((σ 133 79) - m) 20)) 133 83 ((σ 133 83) + ((σ 133 79) - m))) 133 80 ((σ 133 80) - ((σ 133 79) - m))) := by
  refine Mt.walk (ls := [gR 133]) pn_X12 rfl (fun _ _ h => by obtain ⟨_, h, _⟩ := h; cases h) (Nat.le_of_ble_eq_true rfl) rfl ?_
  have hl_0 : ∀ (mm : Nat) (m pz o : Int) (P : Int → Int), m.toNat = mm → (0 ≤ m ∧ m ≤ (σ 133 79)) → (pz = (σ 133 83) + ((σ 133 79) - m)) → (o = (σ 133 80) - ((σ 133 79) - m)) → (∀ i, m ≤ i → i < (σ 133 79) → σ 186 i = 20) → (P = pfl (σ 180) (1200 + (σ 133 83)) ((σ 133 79) - m) 20) → Wp mX12_turnNots 2 (fun v σ' => ∃ m, v = gX 1 ∧ NTS (σ 186) 20 (σ 133 79) m ∧ σ' = gUp (gUp (gUr (gUp σ 133 79 m) 180 (pfl (σ 180) (1200 + (σ 133 83)) ((σ 133 79) - m) 20)) 133 83 ((σ 133 83) + ((σ 133 79) - m))) 133 80 ((σ 133 80) - ((σ 133 79) - m))) (gUp (gUp (gUr (gUp σ 133 79 m) 180 P) 133 83 pz) 133 80 o) 0 [gR 133] [] := by
    intro m_0
    induction m_0 using Nat.strongRecOn with
    | _ m_0 ih_0 =>
      intro m pz o P hmeas_0 m0 hz ho hall hP
      refine w_aload_n (pc' := 1) (i := 0) (by rfl) (by rfl) dX12_turnNots_0 rfl ?_
      refine v_getI (pc' := 4) (ji := 79) rfl fg_X12_429 kd_133 dX12_turnNots_1 rfl ?_
      show Wp _ _ _ _ _ _ [gI m]
      refine w_if_le (pc' := 7) (t := 40) dX12_turnNots_4 rfl rfl (fun c_4 => ?_) (fun c_4 => ?_)
      · skip
        refine w_return rfl dX12_turnNots_40 ?_
        exact ⟨m, rfl, ⟨m0, hall, fun h => by first | exact c_20 | (exfalso; omega)⟩, by rw [hP, hz, ho]⟩
      · skip
        refine w_aload_n (pc' := 8) (i := 0) (by rfl) (by rfl) dX12_turnNots_7 rfl ?_
        refine w_getS (pc' := 11) (q := 186) fg_X12_178 kd_133 sf_X12_78 gr_133_78 dX12_turnNots_8 rfl ?_
        refine w_aload_n (pc' := 12) (i := 0) (by rfl) (by rfl) dX12_turnNots_11 rfl ?_
        refine v_getI (pc' := 15) (ji := 79) rfl fg_X12_429 kd_133 dX12_turnNots_12 rfl ?_
        show Wp _ _ _ _ _ _ [gI m, gR 186]
        refine w_iconst (pc' := 16) (by decide) dX12_turnNots_15 rfl ?_
        refine v_isub (pc' := 17) (by omega) dX12_turnNots_16 rfl ?_
        refine w_iald (pc' := 18) kd_186 (by omega) (by omega) dX12_turnNots_17 rfl ?_
        show Wp _ _ _ _ _ _ [gI (σ 186 (m - 1))]
        refine w_bipush (pc' := 20) (by decide) (by decide) dX12_turnNots_18 rfl ?_
        refine w_icmp_ne (pc' := 23) (t := 40) dX12_turnNots_20 rfl rfl (fun c_20 => ?_) (fun c_20 => ?_)
        · skip
          refine w_return rfl dX12_turnNots_40 ?_
          exact ⟨m, rfl, ⟨m0, hall, fun h => by first | exact c_20 | (exfalso; omega)⟩, by rw [hP, hz, ho]⟩
        · skip
          refine w_aload_n (pc' := 24) (i := 0) (by rfl) (by rfl) dX12_turnNots_23 rfl ?_
          refine w_callV (pc' := 27) (d' := 1) (av := []) mi_mX12_drop lk_X12_435 rfl ci_X12 kd_133 rfl (Nat.le_of_ble_eq_true rfl) (Nat.le_of_ble_eq_true rfl) dX12_turnNots_24 rfl (mp_drop (σ := gUp (gUp (gUr (gUp σ 133 79 m) 180 P) 133 83 pz) 133 80 o) (show 0 < m ∧ m ≤ 140 by omega) (show 0 ≤ pz ∧ pz < 200 by omega)) (fun v_24 σ_24 q_24 => ?_)
          obtain ⟨rfl, rfl⟩ := q_24
          refine Wp.heq (σ' := gUp (gUp (gUr (gUp σ 133 79 (m - 1)) 180 (updI P (1200 + pz) (σ 186 (m - 1)))) 133 83 (pz + 1)) 133 80 o) ((congrArg (fun z => gUp z 133 83 (pz + 1)) ((congrArg (fun z => gUp z 180 (1200 + pz) (σ 186 (m - 1))) ((gUp_ci (by decide)).trans (congrArg (fun z => gUp z 133 80 o) ((gUp_ci (by decide)).trans (congrArg (fun z => gUp z 133 83 pz) ((gUp_cr (by decide)).trans (congrArg (fun z => gUr z 180 P) gUp_same))))))).trans ((gUp_cu (by decide)).trans (congrArg (fun z => gUp z 133 80 o) ((gUp_cu (by decide)).trans (congrArg (fun z => gUp z 133 83 pz) gUp_row)))))).trans ((gUp_ci (by decide)).trans (congrArg (fun z => gUp z 133 80 o) gUp_same))) ?_
          show Wp _ _ _ _ _ _ []
          refine w_aload_n (pc' := 28) (i := 0) (by rfl) (by rfl) dX12_turnNots_27 rfl ?_
          refine w_dup (pc' := 29) dX12_turnNots_28 rfl ?_
          refine v_getI (pc' := 32) (ji := 80) rfl fg_X12_438 kd_133 dX12_turnNots_29 rfl ?_
          show Wp _ _ _ _ _ _ [gI o, gR 133]
          refine w_iconst (pc' := 33) (by decide) dX12_turnNots_32 rfl ?_
          refine v_isub (pc' := 34) (by omega) dX12_turnNots_33 rfl ?_
          refine v_putI (pc' := 37) (ji := 80) rfl fp_X12_438 kd_133 sf_X12_80 dX12_turnNots_34 rfl ?_
          refine Wp.heq (σ' := gUp (gUp (gUr (gUp σ 133 79 (m - 1)) 180 (updI P (1200 + pz) (σ 186 (m - 1)))) 133 83 (pz + 1)) 133 80 (o - 1)) gUp_same ?_
          refine w_goto (pc' := 0) dX12_turnNots_37 rfl ?_
          exact ih_0 _ (by omega) (m - 1) (pz + 1) (o - 1) (updI P (1200 + pz) (σ 186 (m - 1))) rfl (by omega) (by omega) (by omega) (by intro i a b; by_cases e : i = m - 1; (rw [e]; exact c_20); exact hall i (by omega) b) (by rw [hP, c_20, show 1200 + pz = 1200 + (σ 133 83) + ((σ 133 79) - m) by omega, pfl_s (by omega), show (σ 133 79) - m + 1 = (σ 133 79) - (m - 1) by omega])
  refine Wp.heq (σ' := gUp (gUp (gUr (gUp σ 133 79 (σ 133 79)) 180 (σ 180)) 133 83 (σ 133 83)) 133 80 (σ 133 80)) rowsT ?_
  exact hl_0 _ (σ 133 79) (σ 133 83) (σ 133 80) (σ 180) rfl (by omega) (by omega) (by omega) (by intro i a b; omega) (by rw [Int.sub_self]; exact pfl_0.symm)
