/-! who sits: the reference (gen/mod_sit3.py) -/
theorem hdL_or {C R : Int → Bool} : ∀ (n : Nat) (y l : Int), 0 ≤ y → hdL C R n y l = l ∨ ∃ z, 0 ≤ z ∧ C z = true ∧ hdL C R n y l = z
  | 0, _, _, _ => Or.inl rfl
  | n + 1, y, l, h => by
    show (if C y = true then (if R y = true then hdL C R n (y + 1) (if y < l then y else l) else y) else hdL C R n (y + 1) l) = l ∨ ∃ z, 0 ≤ z ∧ C z = true ∧ (if C y = true then (if R y = true then hdL C R n (y + 1) (if y < l then y else l) else y) else hdL C R n (y + 1) l) = z
    by_cases c : C y = true
    · rw [if_pos c]
      by_cases r : R y = true
      · rw [if_pos r]
        rcases hdL_or (C := C) (R := R) n (y + 1) (if y < l then y else l) (by omega) with e | ⟨z, z0, hz, e⟩
        · rw [e]
          by_cases q : y < l
          · rw [if_pos q]; exact Or.inr ⟨y, h, c, rfl⟩
          · rw [if_neg q]; exact Or.inl rfl
        · exact Or.inr ⟨z, z0, hz, e⟩
      · rw [if_neg r]; exact Or.inr ⟨y, h, c, rfl⟩
    · rw [if_neg c]; exact hdL_or n (y + 1) l (by omega)
theorem HD_in {A : Int → Int → Int} {n x : Int} (hout : ∀ g f, n ≤ g ∨ n ≤ f → A g f = 0) (h0 : 0 ≤ x) (h1 : x < n) : 0 ≤ HD A x ∧ HD A x < n := by
  rcases hdL_or (C := fun y => ctl A y x) (R := rul A) 60 0 x (by omega) with e | ⟨z, z0, hz, e⟩
  · have e2 : HD A x = x := e
    omega
  · have e2 : HD A x = z := e
    by_cases q : z < n
    · omega
    · exact absurd (ctl_iff.mp hz) (Ctl_out hout (Or.inl (by omega)))
/-- who has no part in one doesn't control it -/
theorem Ctl_none {A : Int → Int → Int} {z x : Int} (h : ∀ c, A c x = 0) : ¬ Ctl A z x := by
  intro k
  have r := k.2.2.2 (fun g => decide (g ≠ x)) (fun f a b c w => by
    by_cases e : f = x
    · exfalso
      rw [e, h z, (sumI_congr (g := fun _ => 0) (fun i _ _ => by rw [h i, ite_self])).trans (sumI_zero 60)] at w
      omega
    · exact decide_eq_true e)
  simp at r
theorem HD_none {A : Int → Int → Int} {x : Int} (h : ∀ c, A c x = 0) : HD A x = x := by
  rcases hdL_or (C := fun y => ctl A y x) (R := rul A) 60 0 x (by omega) with e | ⟨z, z0, hz, e⟩
  · exact e
  · exact absurd (ctl_iff.mp hz) (Ctl_none h)
theorem AR_person {σ : gH} (hI : Inv σ) {d t c f : Int} (h : σ 4 f = 0) : AR σ d t c f = 0 := by
  refine (sumI_congr (g := fun _ => 0) fun i a b => if_neg (fun k => ?_)).trans (sumI_zero _)
  have r := (hI.f.own.2.2.2 i a (by omega)).2.2.2.2.2.2
  unfold isHo at r
  have r2 := r.2.1.2
  rw [k.2.1] at r2
  exact r2 h
theorem q_shareOf {σ : gH} {A : Int → Int → Int} (hP : ∀ x f, 0 ≤ x → x < 60 → 0 ≤ f → f < 60 → σ 168 (60 * x + f) = A x f) (hp : ∀ c f, 0 ≤ A c f ∧ A c f ≤ 10000) {n : Int} (hn : σ 133 6 = n) (hn0 : 0 ≤ n) (hn1 : n ≤ 60) (hout : ∀ g f, n ≤ g ∨ n ≤ f → A g f = 0) (hd : ∀ y, A y y = 0) (x f : Int) (hx : 0 ≤ x ∧ x < 60) (hf : 0 ≤ f ∧ f < 60) : Mt mX12_shareOf 2 [gR 133, gI x, gI f] σ (rE (gI (if x = f then 10000 else cutP (w64 (pS A 4 (fun u => decide (u = x)) x f)))) σ) := by
  refine Mt.walk (ls := [gR 133, gI x, gI f]) pn_X12 rfl (fun _ _ h => by cases h.1) (Nat.le_of_ble_eq_true rfl) rfl ?_
  refine w_iload_n (pc' := 1) (i := 1) (by rfl) (by rfl) dX12_shareOf_0 rfl ?_
  refine w_iload_n (pc' := 2) (i := 2) (by rfl) (by rfl) dX12_shareOf_1 rfl ?_
  refine w_icmp_ne (pc' := 5) (t := 11) dX12_shareOf_2 rfl rfl (fun c_2 => ?_) (fun c_2 => ?_)
  · skip
    refine w_aload_n (pc' := 12) (i := 0) (by rfl) (by rfl) dX12_shareOf_11 rfl ?_
    refine w_iload_n (pc' := 13) (i := 1) (by rfl) (by rfl) dX12_shareOf_12 rfl ?_
    refine w_iload_n (pc' := 14) (i := 2) (by rfl) (by rfl) dX12_shareOf_13 rfl ?_
    refine v_callVE (pc' := 17) (st' := [gJ (w64 (pS A 4 (fun u => decide (u = x)) x f))]) (d' := 1) (av := [gI x, gI f]) mi_mX12_partOf lk_X12_353 rfl ci_X12 kd_133 rfl (Nat.le_of_ble_eq_true rfl) (Nat.le_of_ble_eq_true rfl) dX12_shareOf_14 rfl rfl (q_partOf (A := A) hP hp hn hn0 hn1 hout hd x f hx hf) ?_
    refine w_ldc2 (pc' := 20) (by decide) ct_X12_338 dX12_shareOf_17 rfl ?_
    refine w_ldiv (pc' := 21) (by omega) dX12_shareOf_20 rfl ?_
    refine w_l2i (pc' := 22) dX12_shareOf_21 rfl ?_
    refine v_ireturn rfl dX12_shareOf_22 ?_
    first | exact ⟨by rw [if_pos (by assumption)], rfl⟩ | exact ⟨by rw [if_neg (by assumption)], rfl⟩
  · skip
    refine w_sipush (pc' := 8) (by decide) (by decide) dX12_shareOf_5 rfl ?_
    refine w_goto (pc' := 22) dX12_shareOf_8 rfl ?_
    refine v_ireturn rfl dX12_shareOf_22 ?_
    first | exact ⟨by rw [if_pos (by assumption)], rfl⟩ | exact ⟨by rw [if_neg (by assumption)], rfl⟩
