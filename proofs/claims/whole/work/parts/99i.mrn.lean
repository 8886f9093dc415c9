/-! the reference reads a law: a number (gen/mod_mrn.py) -/
theorem mp_readNumber {σ : gH} {T : Int → Int} {L p a q k v : Int} (hT : TKS T L p a q k v σ) (x y : Int) : Mt mX12_readNumber 1 [gR 133, gI x, gI y] σ (fun w σ' => (k = 3 ∧ (x ≤ v ∧ v ≤ y) ∧ w = gI 1 ∧ σ' = σ) ∨ (¬ (k = 3 ∧ x ≤ v ∧ v ≤ y) ∧ w = gI 0 ∧ ∃ f, σ' = gUp (gUp σ 133 60 f) 133 61 (σ 133 56) ∧ f = if k = 3 then 2 else 1)) := by
  refine Mt.walk (ls := [gR 133, gI x, gI y]) pn_X12 rfl (fun _ _ h => by rcases h with h | h; (cases h.2.2.1); cases h.2.1) (Nat.le_of_ble_eq_true rfl) rfl ?_
  have hn := hT.num
  obtain ⟨hn1, hn2⟩ := hn
  have hnv : ∀ _ : Unit, σ 133 57 = 3 → σ 133 58 = v := fun _ h => hn2 (hn1.mp h)
  clear hn2
  refine w_aload_n (pc' := 1) (i := 0) (by rfl) (by rfl) dX12_readNumber_0 rfl ?_
  refine v_getI (pc' := 4) (ji := 57) rfl fg_X12_385 kd_133 dX12_readNumber_1 rfl ?_
  refine w_iconst (pc' := 5) (by decide) dX12_readNumber_4 rfl ?_
  refine w_icmp_eq (pc' := 8) (t := 14) dX12_readNumber_5 rfl rfl (fun c_5 => ?_) (fun c_5 => ?_)
  · skip
    refine w_aload_n (pc' := 15) (i := 0) (by rfl) (by rfl) dX12_readNumber_14 rfl ?_
    refine v_getI (pc' := 18) (ji := 58) rfl fg_X12_397 kd_133 dX12_readNumber_15 rfl ?_
    refine w_iload_n (pc' := 19) (i := 1) (by rfl) (by rfl) dX12_readNumber_18 rfl ?_
    refine w_iload_n (pc' := 20) (i := 2) (by rfl) (by rfl) dX12_readNumber_19 rfl ?_
    refine v_callSE (pc' := 23) (st' := [gI (gb (x ≤ (σ 133 58) ∧ (σ 133 58) ≤ y))]) (d' := 0) (av := [gI (σ 133 58), gI x, gI y]) ms_mX12_isIn st_mX12_isIn lk_X12_254 rfl rfl (Nat.le_of_ble_eq_true rfl) (Nat.le_of_ble_eq_true rfl) dX12_readNumber_20 rfl rfl (mo_isIn σ (σ 133 58) x y) ?_
    refine v_if_neB (pc' := 26) (t := 34) dX12_readNumber_23 rfl rfl (fun c_23 => ?_) (fun c_23 => ?_)
    · skip
      refine w_iconst (pc' := 35) (by decide) dX12_readNumber_34 rfl ?_
      refine w_goto (pc' := 39) dX12_readNumber_35 rfl ?_
      refine w_zreturn rfl (.inr rfl) dX12_readNumber_39 ?_
      first | exact Or.inl ⟨by omega, by (have := hnv () (by omega); omega), rfl, rfl⟩ | (exfalso; omega)
    · skip
      refine w_aload_n (pc' := 27) (i := 0) (by rfl) (by rfl) dX12_readNumber_26 rfl ?_
      refine w_iconst (pc' := 28) (by decide) dX12_readNumber_27 rfl ?_
      refine w_callV (pc' := 31) (d' := 0) (av := [gI 2]) mi_mX12_bad lk_X12_409 rfl ci_X12 kd_133 rfl (Nat.le_of_ble_eq_true rfl) (Nat.le_of_ble_eq_true rfl) dX12_readNumber_28 rfl (mg_bad (σ := σ) 2) (fun v_28 σ_28 q_28 => ?_)
      obtain ⟨rfl, y_28, rfl, hy_28⟩ := q_28
      refine Wp.heq (σ' := gUp (gUp σ 133 60 y_28) 133 61 (σ 133 56)) ((congrArg (fun z => gUp z 133 61 (σ 133 56)) rfl).trans rfl) ?_
      show Wp _ _ _ _ _ _ [gI 0]
      refine w_if_eq (pc' := 34) (t := 38) dX12_readNumber_31 rfl rfl (fun c_31 => ?_) (fun c_31 => ?_)
      · skip
        refine w_iconst (pc' := 39) (by decide) dX12_readNumber_38 rfl ?_
        refine w_zreturn rfl (.inl rfl) dX12_readNumber_39 ?_
        first | exact Or.inr ⟨by (first | omega | (have := hnv () (by omega); omega)), rfl, _, rfl, by (split <;> omega)⟩ | (exfalso; omega)
      · skip
        refine w_iconst (pc' := 35) (by decide) dX12_readNumber_34 rfl ?_
        refine w_goto (pc' := 39) dX12_readNumber_35 rfl ?_
        refine w_zreturn rfl (.inr rfl) dX12_readNumber_39 ?_
        first | exact Or.inr ⟨by (first | omega | (have := hnv () (by omega); omega)), rfl, _, rfl, by (split <;> omega)⟩ | (exfalso; omega)
  · skip
    refine w_aload_n (pc' := 9) (i := 0) (by rfl) (by rfl) dX12_readNumber_8 rfl ?_
    refine w_iconst (pc' := 10) (by decide) dX12_readNumber_9 rfl ?_
    refine w_callV (pc' := 13) (d' := 0) (av := [gI 1]) mi_mX12_bad lk_X12_409 rfl ci_X12 kd_133 rfl (Nat.le_of_ble_eq_true rfl) (Nat.le_of_ble_eq_true rfl) dX12_readNumber_10 rfl (mg_bad (σ := σ) 1) (fun v_10 σ_10 q_10 => ?_)
    obtain ⟨rfl, y_10, rfl, hy_10⟩ := q_10
    refine Wp.heq (σ' := gUp (gUp σ 133 60 y_10) 133 61 (σ 133 56)) ((congrArg (fun z => gUp z 133 61 (σ 133 56)) rfl).trans rfl) ?_
    show Wp _ _ _ _ _ _ [gI 0]
    refine w_zreturn rfl (.inl rfl) dX12_readNumber_13 ?_
    first | exact Or.inr ⟨by (first | omega | (have := hnv () (by omega); omega)), rfl, _, rfl, by (split <;> omega)⟩ | (exfalso; omega)
