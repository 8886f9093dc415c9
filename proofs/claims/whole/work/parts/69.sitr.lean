/-! who sits: the reference (gen/mod_sit3.py) -/
theorem q_shareOf {σ : gH} {A : Int → Int → Int} (hP : ∀ x f, 0 ≤ x → x < 60 → 0 ≤ f → f < 60 → σ 168 (60 * x + f) = A x f) (hp : ∀ c f, 0 ≤ A c f ∧ A c f ≤ 10000) {n : Int} (hn : σ 133 6 = n) (hn0 : 0 ≤ n) (hn1 : n ≤ 60) (hout : ∀ g f, n ≤ g ∨ n ≤ f → A g f = 0) (hd : ∀ y, A y y = 0) (x f : Int) (hx : 0 ≤ x ∧ x < 60) (hf : 0 ≤ f ∧ f < 60) : Mt mX12_shareOf 2 [gR 133, gI x, gI f] σ (rE (gI (if x = f then 10000 else cutP (w64 (pS A 4 (fun u => decide (u = x)) x f)))) σ) := by
  refine Mt.walk (ls := [gR 133, gI x, gI f]) pn_X12 rfl (fun _ _ h => by cases h.1) (Nat.le_of_ble_eq_true rfl) rfl ?_
  refine w_iload_n (pc' := 1) (i := 1) (by rfl) (by rfl) dX12_shareOf_0 rfl ?_
  refine w_iload_n (pc' := 2) (i := 2) (by rfl) (by rfl) dX12_shareOf_1 rfl ?_
  refine w_icmp_ne (pc' := 5) (t := 11) dX12_shareOf_2 rfl rfl (fun c_2 => ?_) (fun c_2 => ?_)
  · skip
    refine w_aload_n (pc' := 12) (i := 0) (by rfl) (by rfl) dX12_shareOf_11 rfl ?_
    refine w_iload_n (pc' := 13) (i := 1) (by rfl) (by rfl) dX12_shareOf_12 rfl ?_
    refine w_iload_n (pc' := 14) (i := 2) (by rfl) (by rfl) dX12_shareOf_13 rfl ?_
    refine v_callVE (pc' := 17) (st' := [gJ (w64 (pS A 4 (fun u => decide (u = x)) x f))]) (d' := 1) (av := [gI x, gI f]) mi_mX12_partOf lk_X12_353 rfl ci_X12 kd_133 rfl (Nat.le_of_ble_eq_true rfl) (Nat.le_of_ble_eq_true rfl) dX12_shareOf_14 rfl rfl (q_partOf (A := A) hP hp hn hn0 hn1 hout hd x f hx hf) ?_
    refine w_ldc2 (pc' := 20) (by decide) ct_X12_338 dX12_shareOf_17 rfl ?_
    refine w_ldiv (pc' := 21) (by omega) dX12_shareOf_20 rfl ?_
    refine w_l2i (pc' := 22) dX12_shareOf_21 rfl ?_
    refine v_ireturn rfl dX12_shareOf_22 ?_
    first | exact ⟨by rw [if_pos (by assumption)], rfl⟩ | exact ⟨by rw [if_neg (by assumption)], rfl⟩
  · skip
    refine w_sipush (pc' := 8) (by decide) (by decide) dX12_shareOf_5 rfl ?_
    refine w_goto (pc' := 22) dX12_shareOf_8 rfl ?_
    refine v_ireturn rfl dX12_shareOf_22 ?_
    first | exact ⟨by rw [if_pos (by assumption)], rfl⟩ | exact ⟨by rw [if_neg (by assumption)], rfl⟩
