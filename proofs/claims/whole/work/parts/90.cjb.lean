/-! joined: the class, its bits and small steps (gen/mod_cjb.py) -/
theorem g64_zero {op : Int64 → Int64 → Int64} {a b : Int} : gB64 op a b = 0 ↔ (Int64.ofInt (gB64 op a b)).toBitVec = 0#64 := by
  constructor
  · intro h; rw [h]; rfl
  · intro h
    have h3 : Int64.ofInt (gB64 op a b) = 0 := Int64.toBitVec_inj.mp h
    rw [gB64_back] at h3
    unfold gB64
    rw [h3]
    rfl
theorem and_at {z m : Int} (h0 : 0 ≤ m) (h1 : m < 64) : gB64 (fun a b => a &&& b) z (gS64 (fun a b => a <<< b) 1 m) = 0 ↔ ¬ bitI z m := by
  have k : ∀ g, 0 ≤ g → g < 64 → (bitI (gB64 (fun a b => a &&& b) z (gS64 (fun a b => a <<< b) 1 m)) g ↔ bitI z g ∧ g = m) := fun g a b => by rw [bitI_and a b, bitI_one h0 h1 a b]
  constructor
  · intro h hz
    have w := (k m h0 h1).mpr ⟨hz, rfl⟩
    rw [h] at w
    exact bitI_0 h0 h1 w
  · intro h
    rw [g64_zero]
    refine BitVec.eq_of_getLsbD_eq fun i hi => ?_
    rw [BitVec.getLsbD_zero]
    have q := k (i : Int) (by omega) (by omega)
    rw [bitI_iff (by omega) (by omega), Int.toNat_natCast] at q
    by_cases c : (Int64.ofInt (gB64 (fun a b => a &&& b) z (gS64 (fun a b => a <<< b) 1 m))).toBitVec.getLsbD i = true
    · have w := q.mp c
      rw [w.2] at w
      exact absurd w.1 h
    · exact Bool.eq_false_iff.mpr c
theorem hfmd {g : Int} (h0 : 0 ≤ g) (h1 : g < 120) : (0 ≤ w32 (Int.tdiv g 64) ∧ w32 (Int.tdiv g 64) ≤ 1) ∧ (0 ≤ w32 (Int.tmod g 64) ∧ w32 (Int.tmod g 64) < 64) ∧ g = 64 * w32 (Int.tdiv g 64) + w32 (Int.tmod g 64) := by
  rw [Int.tdiv_eq_ediv_of_nonneg h0, Int.tmod_eq_emod_of_nonneg h0, w32_id (by constructor <;> omega), w32_id (by constructor <;> omega)]
  omega
/-- entry e's bit for gift g; a gift's bit -/
def fBt (R : Int → Int) (e g : Int) : Prop := bitI (R (e * 2 + w32 (Int.tdiv g 64))) (w32 (Int.tmod g 64))
def oBt (R : Int → Int) (g : Int) : Prop := bitI (R (w32 (Int.tdiv g 64))) (w32 (Int.tmod g 64))
theorem fBt_set {R : Int → Int} {e g e' g' : Int} (g0 : 0 ≤ g) (g1 : g < 120) (h0 : 0 ≤ g') (h1 : g' < 120) : fBt (updI R (e * 2 + w32 (Int.tdiv g 64)) (gB64 (fun a b => a ||| b) (R (e * 2 + w32 (Int.tdiv g 64))) (gS64 (fun a b => a <<< b) 1 (w32 (Int.tmod g 64))))) e' g' ↔ fBt R e' g' ∨ (e' = e ∧ g' = g) := by
  have a := hfmd g0 g1
  have b := hfmd h0 h1
  unfold fBt
  by_cases c : e' * 2 + w32 (Int.tdiv g' 64) = e * 2 + w32 (Int.tdiv g 64)
  · rw [c, updI_eq, bitI_set a.2.1.1 a.2.1.2 b.2.1.1 b.2.1.2]
    refine or_congr_right ⟨fun k => ⟨by omega, by omega⟩, fun k => by rw [k.2]⟩
  · rw [updI_ne c]
    exact ⟨Or.inl, fun k => k.resolve_right (fun w => c (by rw [w.1, w.2]))⟩
theorem oBt_set {R : Int → Int} {g g' : Int} (g0 : 0 ≤ g) (g1 : g < 120) (h0 : 0 ≤ g') (h1 : g' < 120) : oBt (updI R (w32 (Int.tdiv g 64)) (gB64 (fun a b => a ||| b) (R (w32 (Int.tdiv g 64))) (gS64 (fun a b => a <<< b) 1 (w32 (Int.tmod g 64))))) g' ↔ oBt R g' ∨ g' = g := by
  have a := hfmd g0 g1
  have b := hfmd h0 h1
  unfold oBt
  by_cases c : w32 (Int.tdiv g' 64) = w32 (Int.tdiv g 64)
  · rw [c, updI_eq, bitI_set a.2.1.1 a.2.1.2 b.2.1.1 b.2.1.2]
    exact or_congr_right ⟨fun k => by omega, fun k => by rw [k]⟩
  · rw [updI_ne c]
    exact ⟨Or.inl, fun k => k.resolve_right (fun w => c (by rw [w]))⟩
theorem oBt_clr {R : Int → Int} {g g' : Int} (g0 : 0 ≤ g) (g1 : g < 120) (h0 : 0 ≤ g') (h1 : g' < 120) : oBt (updI R (w32 (Int.tdiv g 64)) (gB64 (fun a b => a &&& b) (R (w32 (Int.tdiv g 64))) (gB64 (fun a b => a ^^^ b) (gS64 (fun a b => a <<< b) 1 (w32 (Int.tmod g 64))) (-1)))) g' ↔ oBt R g' ∧ g' ≠ g := by
  have a := hfmd g0 g1
  have b := hfmd h0 h1
  unfold oBt
  by_cases c : w32 (Int.tdiv g' 64) = w32 (Int.tdiv g 64)
  · rw [c, updI_eq, bitI_clear a.2.1.1 a.2.1.2 b.2.1.1 b.2.1.2]
    exact and_congr_right fun _ => ⟨fun k w => k (by rw [w]), fun k w => k (by omega)⟩
  · rw [updI_ne c]
    exact ⟨fun k => ⟨k, fun w => c (by rw [w])⟩, And.left⟩
theorem inI_0 {p : Prop} : inI p = 0 ↔ ¬ p := by
  by_cases h : p
  · rw [inI_t h]; exact ⟨fun k => absurd k (by decide), fun k => absurd h k⟩
  · rw [inI_f h]; exact ⟨fun _ => h, fun _ => rfl⟩
theorem inI_1 {p : Prop} (h : ¬ inI p = 0) : p := Classical.not_not.mp fun k => h (inI_0.mpr k)
theorem choose_at {x y m : Int} (h0 : 0 ≤ m) (h1 : m < 64) : gCmp (gB64 (fun a b => a &&& b) (gB64 (fun a b => a &&& b) x y) (gS64 (fun a b => a <<< b) 1 m)) 0 = 0 ↔ ¬ (bitI x m ∧ bitI y m) := by
  rw [gCmp_0, and_at h0 h1, bitI_and h0 h1]
theorem kj_has (σ : gH) (e : Int) : Mt mX6_has 0 [gR 112, gI e] σ (rE (gI (gb ((0 ≤ e ∧ e < σ 112 8) ∧ e < 100))) σ) := by
  refine Mt.walk (ls := [gR 112, gI e]) pn_X6 rfl (fun _ _ h => by cases h.1) (Nat.le_of_ble_eq_true rfl) rfl ?_
  refine w_iload_n (pc' := 1) (i := 1) (by rfl) (by rfl) dX6_has_0 rfl ?_
  refine w_if_lt (pc' := 4) (t := 22) dX6_has_1 rfl rfl (fun c_1 => ?_) (fun c_1 => ?_)
  · skip
    refine w_iconst (pc' := 23) (by decide) dX6_has_22 rfl ?_
    refine w_zreturn rfl (.inl rfl) dX6_has_23 ?_
    first | exact ⟨congrArg gI (gb_t (by omega)).symm, rfl⟩ | exact ⟨congrArg gI (gb_f (by omega)).symm, rfl⟩
  · skip
    refine w_iload_n (pc' := 5) (i := 1) (by rfl) (by rfl) dX6_has_4 rfl ?_
    refine w_aload_n (pc' := 6) (i := 0) (by rfl) (by rfl) dX6_has_5 rfl ?_
    refine v_getI (pc' := 9) (ji := 8) rfl fg_X6_61 kd_112 dX6_has_6 rfl ?_
    refine w_icmp_ge (pc' := 12) (t := 22) dX6_has_9 rfl rfl (fun c_9 => ?_) (fun c_9 => ?_)
    · skip
      refine w_iconst (pc' := 23) (by decide) dX6_has_22 rfl ?_
      refine w_zreturn rfl (.inl rfl) dX6_has_23 ?_
      first | exact ⟨congrArg gI (gb_t (by omega)).symm, rfl⟩ | exact ⟨congrArg gI (gb_f (by omega)).symm, rfl⟩
    · skip
      refine w_iload_n (pc' := 13) (i := 1) (by rfl) (by rfl) dX6_has_12 rfl ?_
      refine w_bipush (pc' := 15) (by decide) (by decide) dX6_has_13 rfl ?_
      refine w_icmp_ge (pc' := 18) (t := 22) dX6_has_15 rfl rfl (fun c_15 => ?_) (fun c_15 => ?_)
      · skip
        refine w_iconst (pc' := 23) (by decide) dX6_has_22 rfl ?_
        refine w_zreturn rfl (.inl rfl) dX6_has_23 ?_
        first | exact ⟨congrArg gI (gb_t (by omega)).symm, rfl⟩ | exact ⟨congrArg gI (gb_f (by omega)).symm, rfl⟩
      · skip
        refine w_iconst (pc' := 19) (by decide) dX6_has_18 rfl ?_
        refine w_goto (pc' := 23) dX6_has_19 rfl ?_
        refine w_zreturn rfl (.inr rfl) dX6_has_23 ?_
        first | exact ⟨congrArg gI (gb_t (by omega)).symm, rfl⟩ | exact ⟨congrArg gI (gb_f (by omega)).symm, rfl⟩
theorem kj_isGift (σ : gH) (g : Int) : Mt mX6_isGift 0 [gI g] σ (rE (gI (gb (0 ≤ g ∧ g < 120))) σ) := by
  refine Mt.walk (ls := [gI g]) pn_X6 rfl (fun _ _ h => by cases h.1) (Nat.le_of_ble_eq_true rfl) rfl ?_
  refine w_iload_n (pc' := 1) (i := 0) (by rfl) (by rfl) dX6_isGift_0 rfl ?_
  refine w_if_lt (pc' := 4) (t := 14) dX6_isGift_1 rfl rfl (fun c_1 => ?_) (fun c_1 => ?_)
  · skip
    refine w_iconst (pc' := 15) (by decide) dX6_isGift_14 rfl ?_
    refine w_zreturn rfl (.inl rfl) dX6_isGift_15 ?_
    first | exact ⟨congrArg gI (gb_t (by omega)).symm, rfl⟩ | exact ⟨congrArg gI (gb_f (by omega)).symm, rfl⟩
  · skip
    refine w_iload_n (pc' := 5) (i := 0) (by rfl) (by rfl) dX6_isGift_4 rfl ?_
    refine w_bipush (pc' := 7) (by decide) (by decide) dX6_isGift_5 rfl ?_
    refine w_icmp_ge (pc' := 10) (t := 14) dX6_isGift_7 rfl rfl (fun c_7 => ?_) (fun c_7 => ?_)
    · skip
      refine w_iconst (pc' := 15) (by decide) dX6_isGift_14 rfl ?_
      refine w_zreturn rfl (.inl rfl) dX6_isGift_15 ?_
      first | exact ⟨congrArg gI (gb_t (by omega)).symm, rfl⟩ | exact ⟨congrArg gI (gb_f (by omega)).symm, rfl⟩
    · skip
      refine w_iconst (pc' := 11) (by decide) dX6_isGift_10 rfl ?_
      refine w_goto (pc' := 15) dX6_isGift_11 rfl ?_
      refine w_zreturn rfl (.inr rfl) dX6_isGift_15 ?_
      first | exact ⟨congrArg gI (gb_t (by omega)).symm, rfl⟩ | exact ⟨congrArg gI (gb_f (by omega)).symm, rfl⟩
theorem kj_giftJoined {σ : gH} (e : Int) (he : 0 ≤ e ∧ e < 100) (hs : e < σ 112 8) : Mt mX6_giftJoined 1 [gR 112, gI e] σ (rE (gI (σ 121 e)) σ) := by
  refine Mt.walk (ls := [gR 112, gI e]) pn_X6 rfl (fun _ _ h => by cases h.1) (Nat.le_of_ble_eq_true rfl) rfl ?_
  refine w_aload_n (pc' := 1) (i := 0) (by rfl) (by rfl) dX6_giftJoined_0 rfl ?_
  refine w_iload_n (pc' := 2) (i := 1) (by rfl) (by rfl) dX6_giftJoined_1 rfl ?_
  refine v_callVE (pc' := 5) (st' := [gI (gb ((0 ≤ e ∧ e < σ 112 8) ∧ e < 100))]) (d' := 0) (av := [gI e]) mi_mX6_has lk_X6_65 rfl ci_X6 kd_112 rfl (Nat.le_of_ble_eq_true rfl) (Nat.le_of_ble_eq_true rfl) dX6_giftJoined_2 rfl rfl (kj_has σ e) ?_
  refine v_if_eqB (pc' := 8) (t := 17) dX6_giftJoined_5 rfl rfl (fun c_5 => ?_) (fun c_5 => ?_)
  · skip
    refine w_iconst (pc' := 18) (by decide) dX6_giftJoined_17 rfl ?_
    refine v_ireturn rfl dX6_giftJoined_18 ?_
    first | (exfalso; omega) | exact ⟨rfl, rfl⟩
  · skip
    refine w_aload_n (pc' := 9) (i := 0) (by rfl) (by rfl) dX6_giftJoined_8 rfl ?_
    refine w_getS (pc' := 12) (q := 121) fg_X6_37 kd_112 sf_X6_12 gr_112_12 dX6_giftJoined_9 rfl ?_
    refine w_iload_n (pc' := 13) (i := 1) (by rfl) (by rfl) dX6_giftJoined_12 rfl ?_
    refine w_iald (pc' := 14) kd_121 (by omega) (by omega) dX6_giftJoined_13 rfl ?_
    refine w_goto (pc' := 18) dX6_giftJoined_14 rfl ?_
    refine v_ireturn rfl dX6_giftJoined_18 ?_
    first | (exfalso; omega) | exact ⟨rfl, rfl⟩
theorem kj_put {σ : gH} (e g : Int) (he : 0 ≤ e ∧ e < 100) (hs : e < σ 112 8) (hg : 0 ≤ g ∧ g < 120) : Mt mX6_put 1 [gR 112, gI e, gI g] σ (rE (gX 1) (gUp (gUp σ 121 e g) 122 g e)) := by
  refine Mt.walk (ls := [gR 112, gI e, gI g]) pn_X6 rfl (fun _ _ h => by cases h.1) (Nat.le_of_ble_eq_true rfl) rfl ?_
  refine w_aload_n (pc' := 1) (i := 0) (by rfl) (by rfl) dX6_put_0 rfl ?_
  refine w_iload_n (pc' := 2) (i := 1) (by rfl) (by rfl) dX6_put_1 rfl ?_
  refine v_callVE (pc' := 5) (st' := [gI (gb ((0 ≤ e ∧ e < σ 112 8) ∧ e < 100))]) (d' := 0) (av := [gI e]) mi_mX6_has lk_X6_65 rfl ci_X6 kd_112 rfl (Nat.le_of_ble_eq_true rfl) (Nat.le_of_ble_eq_true rfl) dX6_put_2 rfl rfl (kj_has σ e) ?_
  refine v_if_eqB (pc' := 8) (t := 29) dX6_put_5 rfl rfl (fun c_5 => ?_) (fun c_5 => ?_)
  · skip
    refine w_return rfl dX6_put_29 ?_
    first | (exfalso; omega) | exact ⟨rfl, rfl⟩
  · skip
    refine w_iload_n (pc' := 9) (i := 2) (by rfl) (by rfl) dX6_put_8 rfl ?_
    refine v_callSE (pc' := 12) (st' := [gI (gb (0 ≤ g ∧ g < 120))]) (d' := 0) (av := [gI g]) ms_mX6_isGift st_mX6_isGift lk_X6_138 rfl rfl (Nat.le_of_ble_eq_true rfl) (Nat.le_of_ble_eq_true rfl) dX6_put_9 rfl rfl (kj_isGift σ g) ?_
    refine v_if_eqB (pc' := 15) (t := 29) dX6_put_12 rfl rfl (fun c_12 => ?_) (fun c_12 => ?_)
    · skip
      refine w_return rfl dX6_put_29 ?_
      first | (exfalso; omega) | exact ⟨rfl, rfl⟩
    · skip
      refine w_aload_n (pc' := 16) (i := 0) (by rfl) (by rfl) dX6_put_15 rfl ?_
      refine w_getS (pc' := 19) (q := 121) fg_X6_37 kd_112 sf_X6_12 gr_112_12 dX6_put_16 rfl ?_
      refine w_iload_n (pc' := 20) (i := 1) (by rfl) (by rfl) dX6_put_19 rfl ?_
      refine w_iload_n (pc' := 21) (i := 2) (by rfl) (by rfl) dX6_put_20 rfl ?_
      refine w_iast (pc' := 22) kd_121 (by omega) (by omega) dX6_put_21 rfl ?_
      refine w_aload_n (pc' := 23) (i := 0) (by rfl) (by rfl) dX6_put_22 rfl ?_
      refine w_getS (pc' := 26) (q := 122) fg_X6_40 kd_112 sf_X6_13 gr_112_13 dX6_put_23 rfl ?_
      refine w_iload_n (pc' := 27) (i := 2) (by rfl) (by rfl) dX6_put_26 rfl ?_
      refine w_iload_n (pc' := 28) (i := 1) (by rfl) (by rfl) dX6_put_27 rfl ?_
      refine w_iast (pc' := 29) kd_122 (by omega) (by omega) dX6_put_28 rfl ?_
      refine w_return rfl dX6_put_29 ?_
      first | (exfalso; omega) | exact ⟨rfl, rfl⟩
theorem k_isChoice119 {σ : gH} (e g : Int) (he : 0 ≤ e ∧ e < 100) (hs : e < σ 112 8) (hg : 0 ≤ g ∧ g < 120) : Mt mX6_isChoice 1 [gR 112, gI e, gI g, gR 119] σ (rE (gI (inI (fBt (σ 118) e g ∧ oBt (σ 119) g))) σ) := by
  refine Mt.walk (ls := [gR 112, gI e, gI g, gR 119, gX 1]) pn_X6 rfl (fun _ _ h => by cases h.1) (Nat.le_of_ble_eq_true rfl) rfl ?_
  have hm := hfmd hg.1 hg.2
  refine w_aload_n (pc' := 1) (i := 0) (by rfl) (by rfl) dX6_isChoice_0 rfl ?_
  refine w_iload_n (pc' := 2) (i := 1) (by rfl) (by rfl) dX6_isChoice_1 rfl ?_
  refine v_callVE (pc' := 5) (st' := [gI (gb ((0 ≤ e ∧ e < σ 112 8) ∧ e < 100))]) (d' := 0) (av := [gI e]) mi_mX6_has lk_X6_65 rfl ci_X6 kd_112 rfl (Nat.le_of_ble_eq_true rfl) (Nat.le_of_ble_eq_true rfl) dX6_isChoice_2 rfl rfl (kj_has σ e) ?_
  refine v_if_eqB (pc' := 8) (t := 15) dX6_isChoice_5 rfl rfl (fun c_5 => ?_) (fun c_5 => ?_)
  · skip
    refine w_iconst (pc' := 16) (by decide) dX6_isChoice_15 rfl ?_
    refine w_zreturn rfl (.inl rfl) dX6_isChoice_16 ?_
    exfalso; omega
  · skip
    refine w_iload_n (pc' := 9) (i := 2) (by rfl) (by rfl) dX6_isChoice_8 rfl ?_
    refine v_callSE (pc' := 12) (st' := [gI (gb (0 ≤ g ∧ g < 120))]) (d' := 0) (av := [gI g]) ms_mX6_isGift st_mX6_isGift lk_X6_138 rfl rfl (Nat.le_of_ble_eq_true rfl) (Nat.le_of_ble_eq_true rfl) dX6_isChoice_9 rfl rfl (kj_isGift σ g) ?_
    refine v_if_neB (pc' := 15) (t := 17) dX6_isChoice_12 rfl rfl (fun c_12 => ?_) (fun c_12 => ?_)
    · skip
      refine w_iload_n (pc' := 18) (i := 2) (by rfl) (by rfl) dX6_isChoice_17 rfl ?_
      refine w_bipush (pc' := 20) (by decide) (by decide) dX6_isChoice_18 rfl ?_
      refine w_idiv (pc' := 21) (by omega) dX6_isChoice_20 rfl ?_
      refine w_istore (pc' := 23) (ls' := [gR 112, gI e, gI g, gR 119, gI (w32 (g.tdiv 64))]) (by decide) (by rfl) dX6_isChoice_21 rfl ?_
      refine w_aload_n (pc' := 24) (i := 0) (by rfl) (by rfl) dX6_isChoice_23 rfl ?_
      refine w_getS (pc' := 27) (q := 118) fg_X6_28 kd_112 sf_X6_9 gr_112_9 dX6_isChoice_24 rfl ?_
      refine w_iload_n (pc' := 28) (i := 1) (by rfl) (by rfl) dX6_isChoice_27 rfl ?_
      refine w_iconst (pc' := 29) (by decide) dX6_isChoice_28 rfl ?_
      refine v_imul (pc' := 30) (by omega) dX6_isChoice_29 rfl ?_
      refine w_iload (pc' := 32) (by rfl) dX6_isChoice_30 rfl ?_
      refine v_iadd (pc' := 33) (by omega) dX6_isChoice_32 rfl ?_
      refine w_lald (pc' := 34) kd_118 (by omega) (by omega) dX6_isChoice_33 rfl ?_
      refine w_aload_n (pc' := 35) (i := 3) (by rfl) (by rfl) dX6_isChoice_34 rfl ?_
      refine w_iload (pc' := 37) (by rfl) dX6_isChoice_35 rfl ?_
      refine w_lald (pc' := 38) kd_119 (by omega) (by omega) dX6_isChoice_37 rfl ?_
      refine w_land (pc' := 39) dX6_isChoice_38 rfl ?_
      refine w_lconst (n := 1) (pc' := 40) (by decide) (by decide) dX6_isChoice_39 rfl ?_
      refine w_iload_n (pc' := 41) (i := 2) (by rfl) (by rfl) dX6_isChoice_40 rfl ?_
      refine w_bipush (pc' := 43) (by decide) (by decide) dX6_isChoice_41 rfl ?_
      refine w_irem (pc' := 44) (by omega) dX6_isChoice_43 rfl ?_
      refine w_lshl (pc' := 45) dX6_isChoice_44 rfl ?_
      refine w_land (pc' := 46) dX6_isChoice_45 rfl ?_
      refine w_lconst (n := 0) (pc' := 47) (by decide) (by decide) dX6_isChoice_46 rfl ?_
      refine w_lcmp (pc' := 48) dX6_isChoice_47 rfl ?_
      refine w_if_eq (pc' := 51) (t := 55) dX6_isChoice_48 rfl rfl (fun c_48 => ?_) (fun c_48 => ?_)
      · skip
        refine w_iconst (pc' := 56) (by decide) dX6_isChoice_55 rfl ?_
        refine w_zreturn rfl (.inl rfl) dX6_isChoice_56 ?_
        exact ⟨congrArg gI (inI_f ((choose_at hm.2.1.1 hm.2.1.2).mp c_48)).symm, rfl⟩
      · skip
        refine w_iconst (pc' := 52) (by decide) dX6_isChoice_51 rfl ?_
        refine w_goto (pc' := 56) dX6_isChoice_52 rfl ?_
        refine w_zreturn rfl (.inr rfl) dX6_isChoice_56 ?_
        exact ⟨congrArg gI (inI_t (Classical.not_not.mp (fun k => c_48 ((choose_at hm.2.1.1 hm.2.1.2).mpr k)))).symm, rfl⟩
    · skip
      refine w_iconst (pc' := 16) (by decide) dX6_isChoice_15 rfl ?_
      refine w_zreturn rfl (.inl rfl) dX6_isChoice_16 ?_
      exfalso; omega
theorem k_isChoice120 {σ : gH} (e g : Int) (he : 0 ≤ e ∧ e < 100) (hs : e < σ 112 8) (hg : 0 ≤ g ∧ g < 120) : Mt mX6_isChoice 1 [gR 112, gI e, gI g, gR 120] σ (rE (gI (inI (fBt (σ 118) e g ∧ oBt (σ 120) g))) σ) := by
  refine Mt.walk (ls := [gR 112, gI e, gI g, gR 120, gX 1]) pn_X6 rfl (fun _ _ h => by cases h.1) (Nat.le_of_ble_eq_true rfl) rfl ?_
  have hm := hfmd hg.1 hg.2
  refine w_aload_n (pc' := 1) (i := 0) (by rfl) (by rfl) dX6_isChoice_0 rfl ?_
  refine w_iload_n (pc' := 2) (i := 1) (by rfl) (by rfl) dX6_isChoice_1 rfl ?_
  refine v_callVE (pc' := 5) (st' := [gI (gb ((0 ≤ e ∧ e < σ 112 8) ∧ e < 100))]) (d' := 0) (av := [gI e]) mi_mX6_has lk_X6_65 rfl ci_X6 kd_112 rfl (Nat.le_of_ble_eq_true rfl) (Nat.le_of_ble_eq_true rfl) dX6_isChoice_2 rfl rfl (kj_has σ e) ?_
  refine v_if_eqB (pc' := 8) (t := 15) dX6_isChoice_5 rfl rfl (fun c_5 => ?_) (fun c_5 => ?_)
  · skip
    refine w_iconst (pc' := 16) (by decide) dX6_isChoice_15 rfl ?_
    refine w_zreturn rfl (.inl rfl) dX6_isChoice_16 ?_
    exfalso; omega
  · skip
    refine w_iload_n (pc' := 9) (i := 2) (by rfl) (by rfl) dX6_isChoice_8 rfl ?_
    refine v_callSE (pc' := 12) (st' := [gI (gb (0 ≤ g ∧ g < 120))]) (d' := 0) (av := [gI g]) ms_mX6_isGift st_mX6_isGift lk_X6_138 rfl rfl (Nat.le_of_ble_eq_true rfl) (Nat.le_of_ble_eq_true rfl) dX6_isChoice_9 rfl rfl (kj_isGift σ g) ?_
    refine v_if_neB (pc' := 15) (t := 17) dX6_isChoice_12 rfl rfl (fun c_12 => ?_) (fun c_12 => ?_)
    · skip
      refine w_iload_n (pc' := 18) (i := 2) (by rfl) (by rfl) dX6_isChoice_17 rfl ?_
      refine w_bipush (pc' := 20) (by decide) (by decide) dX6_isChoice_18 rfl ?_
      refine w_idiv (pc' := 21) (by omega) dX6_isChoice_20 rfl ?_
      refine w_istore (pc' := 23) (ls' := [gR 112, gI e, gI g, gR 120, gI (w32 (g.tdiv 64))]) (by decide) (by rfl) dX6_isChoice_21 rfl ?_
      refine w_aload_n (pc' := 24) (i := 0) (by rfl) (by rfl) dX6_isChoice_23 rfl ?_
      refine w_getS (pc' := 27) (q := 118) fg_X6_28 kd_112 sf_X6_9 gr_112_9 dX6_isChoice_24 rfl ?_
      refine w_iload_n (pc' := 28) (i := 1) (by rfl) (by rfl) dX6_isChoice_27 rfl ?_
      refine w_iconst (pc' := 29) (by decide) dX6_isChoice_28 rfl ?_
      refine v_imul (pc' := 30) (by omega) dX6_isChoice_29 rfl ?_
      refine w_iload (pc' := 32) (by rfl) dX6_isChoice_30 rfl ?_
      refine v_iadd (pc' := 33) (by omega) dX6_isChoice_32 rfl ?_
      refine w_lald (pc' := 34) kd_118 (by omega) (by omega) dX6_isChoice_33 rfl ?_
      refine w_aload_n (pc' := 35) (i := 3) (by rfl) (by rfl) dX6_isChoice_34 rfl ?_
      refine w_iload (pc' := 37) (by rfl) dX6_isChoice_35 rfl ?_
      refine w_lald (pc' := 38) kd_120 (by omega) (by omega) dX6_isChoice_37 rfl ?_
      refine w_land (pc' := 39) dX6_isChoice_38 rfl ?_
      refine w_lconst (n := 1) (pc' := 40) (by decide) (by decide) dX6_isChoice_39 rfl ?_
      refine w_iload_n (pc' := 41) (i := 2) (by rfl) (by rfl) dX6_isChoice_40 rfl ?_
      refine w_bipush (pc' := 43) (by decide) (by decide) dX6_isChoice_41 rfl ?_
      refine w_irem (pc' := 44) (by omega) dX6_isChoice_43 rfl ?_
      refine w_lshl (pc' := 45) dX6_isChoice_44 rfl ?_
      refine w_land (pc' := 46) dX6_isChoice_45 rfl ?_
      refine w_lconst (n := 0) (pc' := 47) (by decide) (by decide) dX6_isChoice_46 rfl ?_
      refine w_lcmp (pc' := 48) dX6_isChoice_47 rfl ?_
      refine w_if_eq (pc' := 51) (t := 55) dX6_isChoice_48 rfl rfl (fun c_48 => ?_) (fun c_48 => ?_)
      · skip
        refine w_iconst (pc' := 56) (by decide) dX6_isChoice_55 rfl ?_
        refine w_zreturn rfl (.inl rfl) dX6_isChoice_56 ?_
        exact ⟨congrArg gI (inI_f ((choose_at hm.2.1.1 hm.2.1.2).mp c_48)).symm, rfl⟩
      · skip
        refine w_iconst (pc' := 52) (by decide) dX6_isChoice_51 rfl ?_
        refine w_goto (pc' := 56) dX6_isChoice_52 rfl ?_
        refine w_zreturn rfl (.inr rfl) dX6_isChoice_56 ?_
        exact ⟨congrArg gI (inI_t (Classical.not_not.mp (fun k => c_48 ((choose_at hm.2.1.1 hm.2.1.2).mpr k)))).symm, rfl⟩
    · skip
      refine w_iconst (pc' := 16) (by decide) dX6_isChoice_15 rfl ?_
      refine w_zreturn rfl (.inl rfl) dX6_isChoice_16 ?_
      exfalso; omega
