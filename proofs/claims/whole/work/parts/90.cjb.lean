/-! joined: the class, its bits and small steps (gen/mod_cjb.py) -/
theorem g64_zero {op : Int64 → Int64 → Int64} {a b : Int} : gB64 op a b = 0 ↔ (Int64.ofInt (gB64 op a b)).toBitVec = 0#64 := by
  constructor
  · intro h; rw [h]; rfl
  · intro h
    have h3 : Int64.ofInt (gB64 op a b) = 0 := Int64.toBitVec_inj.mp h
    rw [gB64_back] at h3
    unfold gB64
    rw [h3]
    rfl
theorem and_at {z m : Int} (h0 : 0 ≤ m) (h1 : m < 64) : gB64 (fun a b => a &&& b) z (gS64 (fun a b => a <<< b) 1 m) = 0 ↔ ¬ bitI z m := by
  have k : ∀ g, 0 ≤ g → g < 64 → (bitI (gB64 (fun a b => a &&& b) z (gS64 (fun a b => a <<< b) 1 m)) g ↔ bitI z g ∧ g = m) := fun g a b => by rw [bitI_and a b, bitI_one h0 h1 a b]
  constructor
  · intro h hz
    have w := (k m h0 h1).mpr ⟨hz, rfl⟩
    rw [h] at w
    exact bitI_0 h0 h1 w
  · intro h
    rw [g64_zero]
    refine BitVec.eq_of_getLsbD_eq fun i hi => ?_
    rw [BitVec.getLsbD_zero]
    have q := k (i : Int) (by omega) (by omega)
    rw [bitI_iff (by omega) (by omega), Int.toNat_natCast] at q
    by_cases c : (Int64.ofInt (gB64 (fun a b => a &&& b) z (gS64 (fun a b => a <<< b) 1 m))).toBitVec.getLsbD i = true
    · have w := q.mp c
      rw [w.2] at w
      exact absurd w.1 h
    · exact Bool.eq_false_iff.mpr c
theorem hfmd {g : Int} (h0 : 0 ≤ g) (h1 : g < 120) : (0 ≤ w32 (Int.tdiv g 64) ∧ w32 (Int.tdiv g 64) ≤ 1) ∧ (0 ≤ w32 (Int.tmod g 64) ∧ w32 (Int.tmod g 64) < 64) ∧ g = 64 * w32 (Int.tdiv g 64) + w32 (Int.tmod g 64) := by
  rw [Int.tdiv_eq_ediv_of_nonneg h0, Int.tmod_eq_emod_of_nonneg h0, w32_id (by constructor <;> omega), w32_id (by constructor <;> omega)]
  omega
/-- entry e's bit for gift g; a gift's bit -/
def fBt (R : Int → Int) (e g : Int) : Prop := bitI (R (e * 2 + w32 (Int.tdiv g 64))) (w32 (Int.tmod g 64))
def oBt (R : Int → Int) (g : Int) : Prop := bitI (R (w32 (Int.tdiv g 64))) (w32 (Int.tmod g 64))
theorem fBt_set {R : Int → Int} {e g e' g' : Int} (g0 : 0 ≤ g) (g1 : g < 120) (h0 : 0 ≤ g') (h1 : g' < 120) : fBt (updI R (e * 2 + w32 (Int.tdiv g 64)) (gB64 (fun a b => a ||| b) (R (e * 2 + w32 (Int.tdiv g 64))) (gS64 (fun a b => a <<< b) 1 (w32 (Int.tmod g 64))))) e' g' ↔ fBt R e' g' ∨ (e' = e ∧ g' = g) := by
  have a := hfmd g0 g1
  have b := hfmd h0 h1
  unfold fBt
  by_cases c : e' * 2 + w32 (Int.tdiv g' 64) = e * 2 + w32 (Int.tdiv g 64)
  · rw [c, updI_eq, bitI_set a.2.1.1 a.2.1.2 b.2.1.1 b.2.1.2]
    refine or_congr_right ⟨fun k => ⟨by omega, by omega⟩, fun k => by rw [k.2]⟩
  · rw [updI_ne c]
    exact ⟨Or.inl, fun k => k.resolve_right (fun w => c (by rw [w.1, w.2]))⟩
theorem oBt_set {R : Int → Int} {g g' : Int} (g0 : 0 ≤ g) (g1 : g < 120) (h0 : 0 ≤ g') (h1 : g' < 120) : oBt (updI R (w32 (Int.tdiv g 64)) (gB64 (fun a b => a ||| b) (R (w32 (Int.tdiv g 64))) (gS64 (fun a b => a <<< b) 1 (w32 (Int.tmod g 64))))) g' ↔ oBt R g' ∨ g' = g := by
  have a := hfmd g0 g1
  have b := hfmd h0 h1
  unfold oBt
  by_cases c : w32 (Int.tdiv g' 64) = w32 (Int.tdiv g 64)
  · rw [c, updI_eq, bitI_set a.2.1.1 a.2.1.2 b.2.1.1 b.2.1.2]
    exact or_congr_right ⟨fun k => by omega, fun k => by rw [k]⟩
  · rw [updI_ne c]
    exact ⟨Or.inl, fun k => k.resolve_right (fun w => c (by rw [w]))⟩
theorem oBt_clr {R : Int → Int} {g g' : Int} (g0 : 0 ≤ g) (g1 : g < 120) (h0 : 0 ≤ g') (h1 : g' < 120) : oBt (updI R (w32 (Int.tdiv g 64)) (gB64 (fun a b => a &&& b) (R (w32 (Int.tdiv g 64))) (gB64 (fun a b => a ^^^ b) (gS64 (fun a b => a <<< b) 1 (w32 (Int.tmod g 64))) (-1)))) g' ↔ oBt R g' ∧ g' ≠ g := by
  have a := hfmd g0 g1
  have b := hfmd h0 h1
  unfold oBt
  by_cases c : w32 (Int.tdiv g' 64) = w32 (Int.tdiv g 64)
  · rw [c, updI_eq, bitI_clear a.2.1.1 a.2.1.2 b.2.1.1 b.2.1.2]
    exact and_congr_right fun _ => ⟨fun k w => k (by rw [w]), fun k w => k (by omega)⟩
  · rw [updI_ne c]
    exact ⟨fun k => ⟨k, fun w => c (by rw [w])⟩, And.left⟩
theorem inI_0 {p : Prop} : inI p = 0 ↔ ¬ p := by
  by_cases h : p
  · rw [inI_t h]; exact ⟨fun k => absurd k (by decide), fun k => absurd h k⟩
  · rw [inI_f h]; exact ⟨fun _ => h, fun _ => rfl⟩
theorem inI_1 {p : Prop} (h : ¬ inI p = 0) : p := Classical.not_not.mp fun k => h (inI_0.mpr k)
theorem choose_at {x y m : Int} (h0 : 0 ≤ m) (h1 : m < 64) : gCmp (gB64 (fun a b => a &&& b) (gB64 (fun a b => a &&& b) x y) (gS64 (fun a b => a <<< b) 1 m)) 0 = 0 ↔ ¬ (bitI x m ∧ bitI y m) := by
  rw [gCmp_0, and_at h0 h1, bitI_and h0 h1]
theorem k_isChoice119 {σ : gH} (e g : Int) (he : 0 ≤ e ∧ e < 100) (hg : 0 ≤ g ∧ g < 120) : Mt mX6_isChoice 0 [gR 112, gI e, gI g, gR 119] σ (rE (gI (inI (fBt (σ 118) e g ∧ oBt (σ 119) g))) σ) := by
  refine Mt.walk (ls := [gR 112, gI e, gI g, gR 119, gX 1]) pn_X6 rfl (fun _ _ h => by cases h.1) (Nat.le_of_ble_eq_true rfl) rfl ?_
  have hm := hfmd hg.1 hg.2
  refine w_iload_n (pc' := 1) (i := 2) (by rfl) (by rfl) dX6_isChoice_0 rfl ?_
  refine w_bipush (pc' := 3) (by decide) (by decide) dX6_isChoice_1 rfl ?_
  refine w_idiv (pc' := 4) (by omega) dX6_isChoice_3 rfl ?_
  refine w_istore (pc' := 6) (ls' := [gR 112, gI e, gI g, gR 119, gI (w32 (g.tdiv 64))]) (by decide) (by rfl) dX6_isChoice_4 rfl ?_
  refine w_aload_n (pc' := 7) (i := 0) (by rfl) (by rfl) dX6_isChoice_6 rfl ?_
  refine w_getS (pc' := 10) (q := 118) fg_X6_28 kd_112 sf_X6_9 gr_112_9 dX6_isChoice_7 rfl ?_
  refine w_iload_n (pc' := 11) (i := 1) (by rfl) (by rfl) dX6_isChoice_10 rfl ?_
  refine w_iconst (pc' := 12) (by decide) dX6_isChoice_11 rfl ?_
  refine v_imul (pc' := 13) (by omega) dX6_isChoice_12 rfl ?_
  refine w_iload (pc' := 15) (by rfl) dX6_isChoice_13 rfl ?_
  refine v_iadd (pc' := 16) (by omega) dX6_isChoice_15 rfl ?_
  refine w_lald (pc' := 17) kd_118 (by omega) (by omega) dX6_isChoice_16 rfl ?_
  refine w_aload_n (pc' := 18) (i := 3) (by rfl) (by rfl) dX6_isChoice_17 rfl ?_
  refine w_iload (pc' := 20) (by rfl) dX6_isChoice_18 rfl ?_
  refine w_lald (pc' := 21) kd_119 (by omega) (by omega) dX6_isChoice_20 rfl ?_
  refine w_land (pc' := 22) dX6_isChoice_21 rfl ?_
  refine w_lconst (n := 1) (pc' := 23) (by decide) (by decide) dX6_isChoice_22 rfl ?_
  refine w_iload_n (pc' := 24) (i := 2) (by rfl) (by rfl) dX6_isChoice_23 rfl ?_
  refine w_bipush (pc' := 26) (by decide) (by decide) dX6_isChoice_24 rfl ?_
  refine w_irem (pc' := 27) (by omega) dX6_isChoice_26 rfl ?_
  refine w_lshl (pc' := 28) dX6_isChoice_27 rfl ?_
  refine w_land (pc' := 29) dX6_isChoice_28 rfl ?_
  refine w_lconst (n := 0) (pc' := 30) (by decide) (by decide) dX6_isChoice_29 rfl ?_
  refine w_lcmp (pc' := 31) dX6_isChoice_30 rfl ?_
  refine w_if_eq (pc' := 34) (t := 38) dX6_isChoice_31 rfl rfl (fun c_31 => ?_) (fun c_31 => ?_)
  · skip
    refine w_iconst (pc' := 39) (by decide) dX6_isChoice_38 rfl ?_
    refine w_zreturn rfl (.inl rfl) dX6_isChoice_39 ?_
    exact ⟨congrArg gI (inI_f ((choose_at hm.2.1.1 hm.2.1.2).mp c_31)).symm, rfl⟩
  · skip
    refine w_iconst (pc' := 35) (by decide) dX6_isChoice_34 rfl ?_
    refine w_goto (pc' := 39) dX6_isChoice_35 rfl ?_
    refine w_zreturn rfl (.inr rfl) dX6_isChoice_39 ?_
    exact ⟨congrArg gI (inI_t (Classical.not_not.mp (fun k => c_31 ((choose_at hm.2.1.1 hm.2.1.2).mpr k)))).symm, rfl⟩
theorem k_isChoice120 {σ : gH} (e g : Int) (he : 0 ≤ e ∧ e < 100) (hg : 0 ≤ g ∧ g < 120) : Mt mX6_isChoice 0 [gR 112, gI e, gI g, gR 120] σ (rE (gI (inI (fBt (σ 118) e g ∧ oBt (σ 120) g))) σ) := by
  refine Mt.walk (ls := [gR 112, gI e, gI g, gR 120, gX 1]) pn_X6 rfl (fun _ _ h => by cases h.1) (Nat.le_of_ble_eq_true rfl) rfl ?_
  have hm := hfmd hg.1 hg.2
  refine w_iload_n (pc' := 1) (i := 2) (by rfl) (by rfl) dX6_isChoice_0 rfl ?_
  refine w_bipush (pc' := 3) (by decide) (by decide) dX6_isChoice_1 rfl ?_
  refine w_idiv (pc' := 4) (by omega) dX6_isChoice_3 rfl ?_
  refine w_istore (pc' := 6) (ls' := [gR 112, gI e, gI g, gR 120, gI (w32 (g.tdiv 64))]) (by decide) (by rfl) dX6_isChoice_4 rfl ?_
  refine w_aload_n (pc' := 7) (i := 0) (by rfl) (by rfl) dX6_isChoice_6 rfl ?_
  refine w_getS (pc' := 10) (q := 118) fg_X6_28 kd_112 sf_X6_9 gr_112_9 dX6_isChoice_7 rfl ?_
  refine w_iload_n (pc' := 11) (i := 1) (by rfl) (by rfl) dX6_isChoice_10 rfl ?_
  refine w_iconst (pc' := 12) (by decide) dX6_isChoice_11 rfl ?_
  refine v_imul (pc' := 13) (by omega) dX6_isChoice_12 rfl ?_
  refine w_iload (pc' := 15) (by rfl) dX6_isChoice_13 rfl ?_
  refine v_iadd (pc' := 16) (by omega) dX6_isChoice_15 rfl ?_
  refine w_lald (pc' := 17) kd_118 (by omega) (by omega) dX6_isChoice_16 rfl ?_
  refine w_aload_n (pc' := 18) (i := 3) (by rfl) (by rfl) dX6_isChoice_17 rfl ?_
  refine w_iload (pc' := 20) (by rfl) dX6_isChoice_18 rfl ?_
  refine w_lald (pc' := 21) kd_120 (by omega) (by omega) dX6_isChoice_20 rfl ?_
  refine w_land (pc' := 22) dX6_isChoice_21 rfl ?_
  refine w_lconst (n := 1) (pc' := 23) (by decide) (by decide) dX6_isChoice_22 rfl ?_
  refine w_iload_n (pc' := 24) (i := 2) (by rfl) (by rfl) dX6_isChoice_23 rfl ?_
  refine w_bipush (pc' := 26) (by decide) (by decide) dX6_isChoice_24 rfl ?_
  refine w_irem (pc' := 27) (by omega) dX6_isChoice_26 rfl ?_
  refine w_lshl (pc' := 28) dX6_isChoice_27 rfl ?_
  refine w_land (pc' := 29) dX6_isChoice_28 rfl ?_
  refine w_lconst (n := 0) (pc' := 30) (by decide) (by decide) dX6_isChoice_29 rfl ?_
  refine w_lcmp (pc' := 31) dX6_isChoice_30 rfl ?_
  refine w_if_eq (pc' := 34) (t := 38) dX6_isChoice_31 rfl rfl (fun c_31 => ?_) (fun c_31 => ?_)
  · skip
    refine w_iconst (pc' := 39) (by decide) dX6_isChoice_38 rfl ?_
    refine w_zreturn rfl (.inl rfl) dX6_isChoice_39 ?_
    exact ⟨congrArg gI (inI_f ((choose_at hm.2.1.1 hm.2.1.2).mp c_31)).symm, rfl⟩
  · skip
    refine w_iconst (pc' := 35) (by decide) dX6_isChoice_34 rfl ?_
    refine w_goto (pc' := 39) dX6_isChoice_35 rfl ?_
    refine w_zreturn rfl (.inr rfl) dX6_isChoice_39 ?_
    exact ⟨congrArg gI (inI_t (Classical.not_not.mp (fun k => c_31 ((choose_at hm.2.1.1 hm.2.1.2).mpr k)))).symm, rfl⟩
