/-! Spans: rows of facts; the object at k, its six arrays behind it, n places each (gen/mod_spans.py) -/
def isSp (k n : Nat) : Prop := gL[k]? = some (.inl 9) ∧ gL[k + 1]? = some (.inr (0, n)) ∧ gL[k + 2]? = some (.inr (0, n)) ∧ gL[k + 3]? = some (.inr (0, n)) ∧ gL[k + 4]? = some (.inr (0, n)) ∧ gL[k + 5]? = some (.inr (0, n)) ∧ gL[k + 6]? = some (.inr (0, n)) ∧ gi32 n ∧
  gRef k 0 = ((k + 1 : Nat) : Int) ∧ gRef k 1 = ((k + 2 : Nat) : Int) ∧ gRef k 2 = ((k + 3 : Nat) : Int) ∧ gRef k 3 = ((k + 4 : Nat) : Int) ∧ gRef k 4 = ((k + 5 : Nat) : Int) ∧ gRef k 5 = ((k + 6 : Nat) : Int)
theorem sp_6 : isSp 6 100 := by unfold isSp; decide +kernel
theorem sp_15 : isSp 15 200 := by unfold isSp; decide +kernel
theorem sp_34 : isSp 34 60 := by unfold isSp; decide +kernel
def spAdd (σ : gH) (k : Nat) (a b p f u t : Int) : gH := gUp (gUp (gUp (gUp (gUp (gUp (gUp σ (k + 1) (σ k 6) a) (k + 2) (σ k 6) b) (k + 3) (σ k 6) p) (k + 4) (σ k 6) f) (k + 5) (σ k 6) u) (k + 6) (σ k 6) t) k 6 (σ k 6 + 1)
theorem sp_total {k n : Nat} (hk : isSp k n) (σ : gH)  : Mt mX9_total 0 [gR k] σ (rE (gI (σ k 6)) σ) := by
  refine Mt.walk (ls := [gR k]) pn_X9 rfl (fun _ _ h => by cases h.1) (Nat.le_of_ble_eq_true rfl) rfl ?_
  obtain ⟨K0, K1, K2, K3, K4, K5, K6, hn, R0, R1, R2, R3, R4, R5⟩ := hk
  refine w_aload_n (pc' := 1) (i := 0) (by rfl) (by rfl) dX9_total_0 rfl ?_
  refine v_getI (pc' := 4) (ji := 6) rfl fg_X9_30 K0 dX9_total_1 rfl ?_
  refine v_ireturn rfl dX9_total_4 ?_
  exact ⟨rfl, rfl⟩
theorem sp_first {k n : Nat} (hk : isSp k n) (σ : gH) {i : Int} (h0 : 0 ≤ i) (h1 : i < n) : Mt mX9_first 0 [gR k, gI i] σ (rE (gI (σ (k + 1) i)) σ) := by
  refine Mt.walk (ls := [gR k, gI i]) pn_X9 rfl (fun _ _ h => by cases h.1) (Nat.le_of_ble_eq_true rfl) rfl ?_
  obtain ⟨K0, K1, K2, K3, K4, K5, K6, hn, R0, R1, R2, R3, R4, R5⟩ := hk
  refine w_iload_n (pc' := 1) (i := 1) (by rfl) (by rfl) dX9_first_0 rfl ?_
  refine w_if_lt (pc' := 4) (t := 22) dX9_first_1 rfl rfl (fun c_1 => ?_) (fun c_1 => ?_)
  · skip
    refine w_iconst (pc' := 23) (by decide) dX9_first_22 rfl ?_
    refine v_ireturn rfl dX9_first_23 ?_
    first | exact ⟨rfl, rfl⟩ | (exfalso; omega)
  · skip
    refine w_iload_n (pc' := 5) (i := 1) (by rfl) (by rfl) dX9_first_4 rfl ?_
    refine w_aload_n (pc' := 6) (i := 0) (by rfl) (by rfl) dX9_first_5 rfl ?_
    refine w_getS (pc' := 9) (q := (k + 1)) fg_X9_9 K0 sf_X9_0 R0 dX9_first_6 rfl ?_
    refine w_alen (pc' := 10) K1 (by decide) hn dX9_first_9 rfl ?_
    refine w_icmp_ge (pc' := 13) (t := 22) dX9_first_10 rfl rfl (fun c_10 => ?_) (fun c_10 => ?_)
    · skip
      refine w_iconst (pc' := 23) (by decide) dX9_first_22 rfl ?_
      refine v_ireturn rfl dX9_first_23 ?_
      first | exact ⟨rfl, rfl⟩ | (exfalso; omega)
    · skip
      refine w_aload_n (pc' := 14) (i := 0) (by rfl) (by rfl) dX9_first_13 rfl ?_
      refine w_getS (pc' := 17) (q := (k + 1)) fg_X9_9 K0 sf_X9_0 R0 dX9_first_14 rfl ?_
      refine w_iload_n (pc' := 18) (i := 1) (by rfl) (by rfl) dX9_first_17 rfl ?_
      refine w_iald (pc' := 19) K1 (by omega) (by omega) dX9_first_18 rfl ?_
      refine w_goto (pc' := 23) dX9_first_19 rfl ?_
      refine v_ireturn rfl dX9_first_23 ?_
      first | exact ⟨rfl, rfl⟩ | (exfalso; omega)
theorem sp_second {k n : Nat} (hk : isSp k n) (σ : gH) {i : Int} (h0 : 0 ≤ i) (h1 : i < n) : Mt mX9_second 0 [gR k, gI i] σ (rE (gI (σ (k + 2) i)) σ) := by
  refine Mt.walk (ls := [gR k, gI i]) pn_X9 rfl (fun _ _ h => by cases h.1) (Nat.le_of_ble_eq_true rfl) rfl ?_
  obtain ⟨K0, K1, K2, K3, K4, K5, K6, hn, R0, R1, R2, R3, R4, R5⟩ := hk
  refine w_iload_n (pc' := 1) (i := 1) (by rfl) (by rfl) dX9_second_0 rfl ?_
  refine w_if_lt (pc' := 4) (t := 22) dX9_second_1 rfl rfl (fun c_1 => ?_) (fun c_1 => ?_)
  · skip
    refine w_iconst (pc' := 23) (by decide) dX9_second_22 rfl ?_
    refine v_ireturn rfl dX9_second_23 ?_
    first | exact ⟨rfl, rfl⟩ | (exfalso; omega)
  · skip
    refine w_iload_n (pc' := 5) (i := 1) (by rfl) (by rfl) dX9_second_4 rfl ?_
    refine w_aload_n (pc' := 6) (i := 0) (by rfl) (by rfl) dX9_second_5 rfl ?_
    refine w_getS (pc' := 9) (q := (k + 2)) fg_X9_15 K0 sf_X9_1 R1 dX9_second_6 rfl ?_
    refine w_alen (pc' := 10) K2 (by decide) hn dX9_second_9 rfl ?_
    refine w_icmp_ge (pc' := 13) (t := 22) dX9_second_10 rfl rfl (fun c_10 => ?_) (fun c_10 => ?_)
    · skip
      refine w_iconst (pc' := 23) (by decide) dX9_second_22 rfl ?_
      refine v_ireturn rfl dX9_second_23 ?_
      first | exact ⟨rfl, rfl⟩ | (exfalso; omega)
    · skip
      refine w_aload_n (pc' := 14) (i := 0) (by rfl) (by rfl) dX9_second_13 rfl ?_
      refine w_getS (pc' := 17) (q := (k + 2)) fg_X9_15 K0 sf_X9_1 R1 dX9_second_14 rfl ?_
      refine w_iload_n (pc' := 18) (i := 1) (by rfl) (by rfl) dX9_second_17 rfl ?_
      refine w_iald (pc' := 19) K2 (by omega) (by omega) dX9_second_18 rfl ?_
      refine w_goto (pc' := 23) dX9_second_19 rfl ?_
      refine v_ireturn rfl dX9_second_23 ?_
      first | exact ⟨rfl, rfl⟩ | (exfalso; omega)
theorem sp_share {k n : Nat} (hk : isSp k n) (σ : gH) {i : Int} (h0 : 0 ≤ i) (h1 : i < n) : Mt mX9_share 0 [gR k, gI i] σ (rE (gI (σ (k + 3) i)) σ) := by
  refine Mt.walk (ls := [gR k, gI i]) pn_X9 rfl (fun _ _ h => by cases h.1) (Nat.le_of_ble_eq_true rfl) rfl ?_
  obtain ⟨K0, K1, K2, K3, K4, K5, K6, hn, R0, R1, R2, R3, R4, R5⟩ := hk
  refine w_iload_n (pc' := 1) (i := 1) (by rfl) (by rfl) dX9_share_0 rfl ?_
  refine w_if_lt (pc' := 4) (t := 22) dX9_share_1 rfl rfl (fun c_1 => ?_) (fun c_1 => ?_)
  · skip
    refine w_iconst (pc' := 23) (by decide) dX9_share_22 rfl ?_
    refine v_ireturn rfl dX9_share_23 ?_
    first | exact ⟨rfl, rfl⟩ | (exfalso; omega)
  · skip
    refine w_iload_n (pc' := 5) (i := 1) (by rfl) (by rfl) dX9_share_4 rfl ?_
    refine w_aload_n (pc' := 6) (i := 0) (by rfl) (by rfl) dX9_share_5 rfl ?_
    refine w_getS (pc' := 9) (q := (k + 3)) fg_X9_18 K0 sf_X9_2 R2 dX9_share_6 rfl ?_
    refine w_alen (pc' := 10) K3 (by decide) hn dX9_share_9 rfl ?_
    refine w_icmp_ge (pc' := 13) (t := 22) dX9_share_10 rfl rfl (fun c_10 => ?_) (fun c_10 => ?_)
    · skip
      refine w_iconst (pc' := 23) (by decide) dX9_share_22 rfl ?_
      refine v_ireturn rfl dX9_share_23 ?_
      first | exact ⟨rfl, rfl⟩ | (exfalso; omega)
    · skip
      refine w_aload_n (pc' := 14) (i := 0) (by rfl) (by rfl) dX9_share_13 rfl ?_
      refine w_getS (pc' := 17) (q := (k + 3)) fg_X9_18 K0 sf_X9_2 R2 dX9_share_14 rfl ?_
      refine w_iload_n (pc' := 18) (i := 1) (by rfl) (by rfl) dX9_share_17 rfl ?_
      refine w_iald (pc' := 19) K3 (by omega) (by omega) dX9_share_18 rfl ?_
      refine w_goto (pc' := 23) dX9_share_19 rfl ?_
      refine v_ireturn rfl dX9_share_23 ?_
      first | exact ⟨rfl, rfl⟩ | (exfalso; omega)
theorem sp_start {k n : Nat} (hk : isSp k n) (σ : gH) {i : Int} (h0 : 0 ≤ i) (h1 : i < n) : Mt mX9_start 0 [gR k, gI i] σ (rE (gI (σ (k + 4) i)) σ) := by
  refine Mt.walk (ls := [gR k, gI i]) pn_X9 rfl (fun _ _ h => by cases h.1) (Nat.le_of_ble_eq_true rfl) rfl ?_
  obtain ⟨K0, K1, K2, K3, K4, K5, K6, hn, R0, R1, R2, R3, R4, R5⟩ := hk
  refine w_iload_n (pc' := 1) (i := 1) (by rfl) (by rfl) dX9_start_0 rfl ?_
  refine w_if_lt (pc' := 4) (t := 22) dX9_start_1 rfl rfl (fun c_1 => ?_) (fun c_1 => ?_)
  · skip
    refine w_iconst (pc' := 23) (by decide) dX9_start_22 rfl ?_
    refine v_ireturn rfl dX9_start_23 ?_
    first | exact ⟨rfl, rfl⟩ | (exfalso; omega)
  · skip
    refine w_iload_n (pc' := 5) (i := 1) (by rfl) (by rfl) dX9_start_4 rfl ?_
    refine w_aload_n (pc' := 6) (i := 0) (by rfl) (by rfl) dX9_start_5 rfl ?_
    refine w_getS (pc' := 9) (q := (k + 4)) fg_X9_21 K0 sf_X9_3 R3 dX9_start_6 rfl ?_
    refine w_alen (pc' := 10) K4 (by decide) hn dX9_start_9 rfl ?_
    refine w_icmp_ge (pc' := 13) (t := 22) dX9_start_10 rfl rfl (fun c_10 => ?_) (fun c_10 => ?_)
    · skip
      refine w_iconst (pc' := 23) (by decide) dX9_start_22 rfl ?_
      refine v_ireturn rfl dX9_start_23 ?_
      first | exact ⟨rfl, rfl⟩ | (exfalso; omega)
    · skip
      refine w_aload_n (pc' := 14) (i := 0) (by rfl) (by rfl) dX9_start_13 rfl ?_
      refine w_getS (pc' := 17) (q := (k + 4)) fg_X9_21 K0 sf_X9_3 R3 dX9_start_14 rfl ?_
      refine w_iload_n (pc' := 18) (i := 1) (by rfl) (by rfl) dX9_start_17 rfl ?_
      refine w_iald (pc' := 19) K4 (by omega) (by omega) dX9_start_18 rfl ?_
      refine w_goto (pc' := 23) dX9_start_19 rfl ?_
      refine v_ireturn rfl dX9_start_23 ?_
      first | exact ⟨rfl, rfl⟩ | (exfalso; omega)
theorem sp_stop {k n : Nat} (hk : isSp k n) (σ : gH) {i : Int} (h0 : 0 ≤ i) (h1 : i < n) : Mt mX9_stop 0 [gR k, gI i] σ (rE (gI (σ (k + 5) i)) σ) := by
  refine Mt.walk (ls := [gR k, gI i]) pn_X9 rfl (fun _ _ h => by cases h.1) (Nat.le_of_ble_eq_true rfl) rfl ?_
  obtain ⟨K0, K1, K2, K3, K4, K5, K6, hn, R0, R1, R2, R3, R4, R5⟩ := hk
  refine w_iload_n (pc' := 1) (i := 1) (by rfl) (by rfl) dX9_stop_0 rfl ?_
  refine w_if_lt (pc' := 4) (t := 22) dX9_stop_1 rfl rfl (fun c_1 => ?_) (fun c_1 => ?_)
  · skip
    refine w_iconst (pc' := 23) (by decide) dX9_stop_22 rfl ?_
    refine v_ireturn rfl dX9_stop_23 ?_
    first | exact ⟨rfl, rfl⟩ | (exfalso; omega)
  · skip
    refine w_iload_n (pc' := 5) (i := 1) (by rfl) (by rfl) dX9_stop_4 rfl ?_
    refine w_aload_n (pc' := 6) (i := 0) (by rfl) (by rfl) dX9_stop_5 rfl ?_
    refine w_getS (pc' := 9) (q := (k + 5)) fg_X9_24 K0 sf_X9_4 R4 dX9_stop_6 rfl ?_
    refine w_alen (pc' := 10) K5 (by decide) hn dX9_stop_9 rfl ?_
    refine w_icmp_ge (pc' := 13) (t := 22) dX9_stop_10 rfl rfl (fun c_10 => ?_) (fun c_10 => ?_)
    · skip
      refine w_iconst (pc' := 23) (by decide) dX9_stop_22 rfl ?_
      refine v_ireturn rfl dX9_stop_23 ?_
      first | exact ⟨rfl, rfl⟩ | (exfalso; omega)
    · skip
      refine w_aload_n (pc' := 14) (i := 0) (by rfl) (by rfl) dX9_stop_13 rfl ?_
      refine w_getS (pc' := 17) (q := (k + 5)) fg_X9_24 K0 sf_X9_4 R4 dX9_stop_14 rfl ?_
      refine w_iload_n (pc' := 18) (i := 1) (by rfl) (by rfl) dX9_stop_17 rfl ?_
      refine w_iald (pc' := 19) K5 (by omega) (by omega) dX9_stop_18 rfl ?_
      refine w_goto (pc' := 23) dX9_stop_19 rfl ?_
      refine v_ireturn rfl dX9_stop_23 ?_
      first | exact ⟨rfl, rfl⟩ | (exfalso; omega)
theorem sp_isKnown {k n : Nat} (hk : isSp k n) (σ : gH) (hs : σ k 6 ≤ n) (i t : Int) : Mt mX9_isKnown 0 [gR k, gI i, gI t] σ (rE (gI (gb (0 ≤ i ∧ i < σ k 6 ∧ σ (k + 6) i ≤ t))) σ) := by
  refine Mt.walk (ls := [gR k, gI i, gI t]) pn_X9 rfl (fun _ _ h => by cases h.1) (Nat.le_of_ble_eq_true rfl) rfl ?_
  obtain ⟨K0, K1, K2, K3, K4, K5, K6, hn, R0, R1, R2, R3, R4, R5⟩ := hk
  refine w_iload_n (pc' := 1) (i := 1) (by rfl) (by rfl) dX9_isKnown_0 rfl ?_
  refine w_if_lt (pc' := 4) (t := 35) dX9_isKnown_1 rfl rfl (fun c_1 => ?_) (fun c_1 => ?_)
  · skip
    refine w_iconst (pc' := 36) (by decide) dX9_isKnown_35 rfl ?_
    refine w_zreturn rfl (.inl rfl) dX9_isKnown_36 ?_
    first | exact ⟨gbT (by omega), rfl⟩ | exact ⟨gbF (by omega), rfl⟩
  · skip
    refine w_iload_n (pc' := 5) (i := 1) (by rfl) (by rfl) dX9_isKnown_4 rfl ?_
    refine w_aload_n (pc' := 6) (i := 0) (by rfl) (by rfl) dX9_isKnown_5 rfl ?_
    refine v_getI (pc' := 9) (ji := 6) rfl fg_X9_30 K0 dX9_isKnown_6 rfl ?_
    refine w_icmp_ge (pc' := 12) (t := 35) dX9_isKnown_9 rfl rfl (fun c_9 => ?_) (fun c_9 => ?_)
    · skip
      refine w_iconst (pc' := 36) (by decide) dX9_isKnown_35 rfl ?_
      refine w_zreturn rfl (.inl rfl) dX9_isKnown_36 ?_
      first | exact ⟨gbT (by omega), rfl⟩ | exact ⟨gbF (by omega), rfl⟩
    · skip
      refine w_iload_n (pc' := 13) (i := 1) (by rfl) (by rfl) dX9_isKnown_12 rfl ?_
      refine w_aload_n (pc' := 14) (i := 0) (by rfl) (by rfl) dX9_isKnown_13 rfl ?_
      refine w_getS (pc' := 17) (q := (k + 6)) fg_X9_27 K0 sf_X9_5 R5 dX9_isKnown_14 rfl ?_
      refine w_alen (pc' := 18) K6 (by decide) hn dX9_isKnown_17 rfl ?_
      refine w_icmp_ge (pc' := 21) (t := 35) dX9_isKnown_18 rfl rfl (fun c_18 => ?_) (fun c_18 => ?_)
      · skip
        refine w_iconst (pc' := 36) (by decide) dX9_isKnown_35 rfl ?_
        refine w_zreturn rfl (.inl rfl) dX9_isKnown_36 ?_
        first | exact ⟨gbT (by omega), rfl⟩ | exact ⟨gbF (by omega), rfl⟩
      · skip
        refine w_aload_n (pc' := 22) (i := 0) (by rfl) (by rfl) dX9_isKnown_21 rfl ?_
        refine w_getS (pc' := 25) (q := (k + 6)) fg_X9_27 K0 sf_X9_5 R5 dX9_isKnown_22 rfl ?_
        refine w_iload_n (pc' := 26) (i := 1) (by rfl) (by rfl) dX9_isKnown_25 rfl ?_
        refine w_iald (pc' := 27) K6 (by omega) (by omega) dX9_isKnown_26 rfl ?_
        refine w_iload_n (pc' := 28) (i := 2) (by rfl) (by rfl) dX9_isKnown_27 rfl ?_
        refine w_icmp_gt (pc' := 31) (t := 35) dX9_isKnown_28 rfl rfl (fun c_28 => ?_) (fun c_28 => ?_)
        · skip
          refine w_iconst (pc' := 36) (by decide) dX9_isKnown_35 rfl ?_
          refine w_zreturn rfl (.inl rfl) dX9_isKnown_36 ?_
          first | exact ⟨gbT (by omega), rfl⟩ | exact ⟨gbF (by omega), rfl⟩
        · skip
          refine w_iconst (pc' := 32) (by decide) dX9_isKnown_31 rfl ?_
          refine w_goto (pc' := 36) dX9_isKnown_32 rfl ?_
          refine w_zreturn rfl (.inr rfl) dX9_isKnown_36 ?_
          first | exact ⟨gbT (by omega), rfl⟩ | exact ⟨gbF (by omega), rfl⟩
theorem sp_covers {k n : Nat} (hk : isSp k n) (σ : gH) (hs : σ k 6 ≤ n) (i d : Int) : Mt mX9_covers 0 [gR k, gI i, gI d] σ (rE (gI (gb (0 ≤ i ∧ i < σ k 6 ∧ σ (k + 4) i ≤ d ∧ (σ (k + 5) i = -1 ∨ d < σ (k + 5) i)))) σ) := by
  refine Mt.walk (ls := [gR k, gI i, gI d]) pn_X9 rfl (fun _ _ h => by cases h.1) (Nat.le_of_ble_eq_true rfl) rfl ?_
  obtain ⟨K0, K1, K2, K3, K4, K5, K6, hn, R0, R1, R2, R3, R4, R5⟩ := hk
  refine w_iload_n (pc' := 1) (i := 1) (by rfl) (by rfl) dX9_covers_0 rfl ?_
  refine w_if_lt (pc' := 4) (t := 64) dX9_covers_1 rfl rfl (fun c_1 => ?_) (fun c_1 => ?_)
  · skip
    refine w_iconst (pc' := 65) (by decide) dX9_covers_64 rfl ?_
    refine w_zreturn rfl (.inl rfl) dX9_covers_65 ?_
    first | exact ⟨gbT (by omega), rfl⟩ | exact ⟨gbF (by omega), rfl⟩
  · skip
    refine w_iload_n (pc' := 5) (i := 1) (by rfl) (by rfl) dX9_covers_4 rfl ?_
    refine w_aload_n (pc' := 6) (i := 0) (by rfl) (by rfl) dX9_covers_5 rfl ?_
    refine v_getI (pc' := 9) (ji := 6) rfl fg_X9_30 K0 dX9_covers_6 rfl ?_
    refine w_icmp_ge (pc' := 12) (t := 64) dX9_covers_9 rfl rfl (fun c_9 => ?_) (fun c_9 => ?_)
    · skip
      refine w_iconst (pc' := 65) (by decide) dX9_covers_64 rfl ?_
      refine w_zreturn rfl (.inl rfl) dX9_covers_65 ?_
      first | exact ⟨gbT (by omega), rfl⟩ | exact ⟨gbF (by omega), rfl⟩
    · skip
      refine w_iload_n (pc' := 13) (i := 1) (by rfl) (by rfl) dX9_covers_12 rfl ?_
      refine w_aload_n (pc' := 14) (i := 0) (by rfl) (by rfl) dX9_covers_13 rfl ?_
      refine w_getS (pc' := 17) (q := (k + 4)) fg_X9_21 K0 sf_X9_3 R3 dX9_covers_14 rfl ?_
      refine w_alen (pc' := 18) K4 (by decide) hn dX9_covers_17 rfl ?_
      refine w_icmp_ge (pc' := 21) (t := 64) dX9_covers_18 rfl rfl (fun c_18 => ?_) (fun c_18 => ?_)
      · skip
        refine w_iconst (pc' := 65) (by decide) dX9_covers_64 rfl ?_
        refine w_zreturn rfl (.inl rfl) dX9_covers_65 ?_
        first | exact ⟨gbT (by omega), rfl⟩ | exact ⟨gbF (by omega), rfl⟩
      · skip
        refine w_iload_n (pc' := 22) (i := 1) (by rfl) (by rfl) dX9_covers_21 rfl ?_
        refine w_aload_n (pc' := 23) (i := 0) (by rfl) (by rfl) dX9_covers_22 rfl ?_
        refine w_getS (pc' := 26) (q := (k + 5)) fg_X9_24 K0 sf_X9_4 R4 dX9_covers_23 rfl ?_
        refine w_alen (pc' := 27) K5 (by decide) hn dX9_covers_26 rfl ?_
        refine w_icmp_ge (pc' := 30) (t := 64) dX9_covers_27 rfl rfl (fun c_27 => ?_) (fun c_27 => ?_)
        · skip
          refine w_iconst (pc' := 65) (by decide) dX9_covers_64 rfl ?_
          refine w_zreturn rfl (.inl rfl) dX9_covers_65 ?_
          first | exact ⟨gbT (by omega), rfl⟩ | exact ⟨gbF (by omega), rfl⟩
        · skip
          refine w_aload_n (pc' := 31) (i := 0) (by rfl) (by rfl) dX9_covers_30 rfl ?_
          refine w_getS (pc' := 34) (q := (k + 4)) fg_X9_21 K0 sf_X9_3 R3 dX9_covers_31 rfl ?_
          refine w_iload_n (pc' := 35) (i := 1) (by rfl) (by rfl) dX9_covers_34 rfl ?_
          refine w_iald (pc' := 36) K4 (by omega) (by omega) dX9_covers_35 rfl ?_
          refine w_iload_n (pc' := 37) (i := 2) (by rfl) (by rfl) dX9_covers_36 rfl ?_
          refine w_icmp_gt (pc' := 40) (t := 64) dX9_covers_37 rfl rfl (fun c_37 => ?_) (fun c_37 => ?_)
          · skip
            refine w_iconst (pc' := 65) (by decide) dX9_covers_64 rfl ?_
            refine w_zreturn rfl (.inl rfl) dX9_covers_65 ?_
            first | exact ⟨gbT (by omega), rfl⟩ | exact ⟨gbF (by omega), rfl⟩
          · skip
            refine w_aload_n (pc' := 41) (i := 0) (by rfl) (by rfl) dX9_covers_40 rfl ?_
            refine w_getS (pc' := 44) (q := (k + 5)) fg_X9_24 K0 sf_X9_4 R4 dX9_covers_41 rfl ?_
            refine w_iload_n (pc' := 45) (i := 1) (by rfl) (by rfl) dX9_covers_44 rfl ?_
            refine w_iald (pc' := 46) K5 (by omega) (by omega) dX9_covers_45 rfl ?_
            refine w_iconst (pc' := 47) (by decide) dX9_covers_46 rfl ?_
            refine w_icmp_eq (pc' := 50) (t := 60) dX9_covers_47 rfl rfl (fun c_47 => ?_) (fun c_47 => ?_)
            · skip
              refine w_iconst (pc' := 61) (by decide) dX9_covers_60 rfl ?_
              refine w_goto (pc' := 65) dX9_covers_61 rfl ?_
              refine w_zreturn rfl (.inr rfl) dX9_covers_65 ?_
              first | exact ⟨gbT (by omega), rfl⟩ | exact ⟨gbF (by omega), rfl⟩
            · skip
              refine w_iload_n (pc' := 51) (i := 2) (by rfl) (by rfl) dX9_covers_50 rfl ?_
              refine w_aload_n (pc' := 52) (i := 0) (by rfl) (by rfl) dX9_covers_51 rfl ?_
              refine w_getS (pc' := 55) (q := (k + 5)) fg_X9_24 K0 sf_X9_4 R4 dX9_covers_52 rfl ?_
              refine w_iload_n (pc' := 56) (i := 1) (by rfl) (by rfl) dX9_covers_55 rfl ?_
              refine w_iald (pc' := 57) K5 (by omega) (by omega) dX9_covers_56 rfl ?_
              refine w_icmp_ge (pc' := 60) (t := 64) dX9_covers_57 rfl rfl (fun c_57 => ?_) (fun c_57 => ?_)
              · skip
                refine w_iconst (pc' := 65) (by decide) dX9_covers_64 rfl ?_
                refine w_zreturn rfl (.inl rfl) dX9_covers_65 ?_
                first | exact ⟨gbT (by omega), rfl⟩ | exact ⟨gbF (by omega), rfl⟩
              · skip
                refine w_iconst (pc' := 61) (by decide) dX9_covers_60 rfl ?_
                refine w_goto (pc' := 65) dX9_covers_61 rfl ?_
                refine w_zreturn rfl (.inr rfl) dX9_covers_65 ?_
                first | exact ⟨gbT (by omega), rfl⟩ | exact ⟨gbF (by omega), rfl⟩
