/-! names on the tape; the bytes of numbers (gen/mod_name.py) -/
theorem gUp_id {σ : gH} {k : Nat} {i : Int} : gUp σ k i (σ k i) = σ := by
  funext q j
  unfold gUp gUr
  by_cases e : q = k
  · subst e
    rw [if_pos rfl]
    by_cases e2 : j = i
    · subst e2; rw [if_pos rfl]
    · rw [if_neg e2]
  · rw [if_neg e]
def okT (T : Int → Int) : Nat → Bool
  | 0 => true
  | n + 1 => okT T n && decide (97 ≤ T n ∧ T n ≤ 122)
theorem okT_s {T : Int → Int} {i : Int} (h : 0 ≤ i) : okT T (i + 1).toNat = (okT T i.toNat && decide (97 ≤ T i ∧ T i ≤ 122)) := by
  have e : (i + 1).toNat = i.toNat + 1 := by omega
  rw [e]
  show (okT T i.toNat && decide (97 ≤ T (i.toNat : Int) ∧ T (i.toNat : Int) ≤ 122)) = _
  rw [Int.toNat_of_nonneg h]
theorem okT_no {T : Int → Int} {i : Int} (h0 : 0 ≤ i) (hi : ¬ (97 ≤ T i ∧ T i ≤ 122)) : ∀ {n : Int}, i < n → okT T n.toNat = false := by
  intro n hn
  have go : ∀ k : Nat, okT T (i + 1 + k).toNat = false := by
    intro k
    induction k with
    | zero =>
      rw [show i + 1 + ((0 : Nat) : Int) = i + 1 by omega, okT_s h0, decide_eq_false hi, Bool.and_false]
    | succ k ih =>
      rw [show i + 1 + ((k + 1 : Nat) : Int) = i + 1 + k + 1 by omega, okT_s (by omega), ih, Bool.false_and]
  have r := go (n - (i + 1)).toNat
  rw [show i + 1 + ((n - (i + 1)).toNat : Int) = n by omega] at r
  exact r
theorem okT_at {T : Int → Int} : ∀ {n : Nat}, okT T n = true → ∀ i : Int, 0 ≤ i → i < n → 97 ≤ T i ∧ T i ≤ 122
  | 0, _, i, h0, h1 => by omega
  | n + 1, h, i, h0, h1 => by
    have h2 : (okT T n && decide (97 ≤ T n ∧ T n ≤ 122)) = true := h
    rw [Bool.and_eq_true, decide_eq_true_eq] at h2
    by_cases e : i = n
    · rw [e]; exact h2.2
    · exact okT_at h2.1 i h0 (by omega)
def encT (b : Int) (T : Int → Int) : Nat → Int
  | 0 => 0
  | n + 1 => b * encT b T n + (T n - 96)
theorem encT_s {b : Int} {T : Int → Int} {i : Int} (h : 0 ≤ i) : encT b T (i + 1).toNat = b * encT b T i.toNat + (T i - 96) := by
  have e : (i + 1).toNat = i.toNat + 1 := by omega
  rw [e]
  show b * encT b T i.toNat + (T (i.toNat : Int) - 96) = _
  rw [Int.toNat_of_nonneg h]
theorem encT_in {b : Int} {T : Int → Int} (hb : b = 27 ∨ b = 32) : ∀ {n : Nat}, okT T n = true → (n : Int) ≤ encT b T n ∧ encT b T n < 32 ^ n
  | 0, _ => ⟨by show (0 : Int) ≤ 0; omega, by show (0 : Int) < 32 ^ 0; decide⟩
  | n + 1, h => by
    have h2 : (okT T n && decide (97 ≤ T n ∧ T n ≤ 122)) = true := h
    rw [Bool.and_eq_true, decide_eq_true_eq] at h2
    have ih := encT_in hb h2.1
    show ((n + 1 : Nat) : Int) ≤ b * encT b T n + (T n - 96) ∧ b * encT b T n + (T n - 96) < 32 ^ (n + 1)
    rw [Int.pow_succ]
    rcases hb with rfl | rfl <;> omega
theorem pow32 {n : Nat} (h : n ≤ 11) : (32 : Int) ^ n ≤ 36028797018963968 := by
  have : ∀ k : Fin 12, (32 : Int) ^ (k : Nat) ≤ 36028797018963968 := by decide
  exact this ⟨n, by omega⟩
abbrev nmOk (L : Int) (T : Int → Int) : Prop := 1 ≤ L ∧ L ≤ 12 ∧ okT T L.toNat = true
def NMc (L : Int) (T : Int → Int) : Int := if nmOk L T then encT 32 T L.toNat else -1
def NMm (L : Int) (T : Int → Int) : Int := if nmOk L T then encT 27 T L.toNat else 0
theorem NMc_no {L : Int} {T : Int → Int} : NMc L T = -1 ↔ ¬ nmOk L T := by
  unfold NMc
  constructor
  · intro h k
    rw [if_pos k] at h
    have := (encT_in (b := 32) (Or.inr rfl) k.2.2).1
    omega
  · intro h
    rw [if_neg h]
theorem NMm_no {L : Int} {T : Int → Int} : NMm L T = 0 ↔ ¬ nmOk L T := by
  unfold NMm
  constructor
  · intro h k
    rw [if_pos k] at h
    have := (encT_in (b := 27) (Or.inl rfl) k.2.2).1
    have := k.1
    omega
  · intro h
    rw [if_neg h]
theorem enc_T {b : Int} {T : Int → Int} : ∀ n : Nat, enc b ((List.range n).map (fun i => T (i : Nat) - 96)) = encT b T n
  | 0 => rfl
  | n + 1 => by
    rw [List.range_succ, List.map_append]
    unfold enc
    rw [List.foldl_append]
    have ih := enc_T (b := b) (T := T) n
    unfold enc at ih
    rw [ih]
    rfl
theorem nmR_of {L : Int} {T : Int → Int} (h : nmOk L T) : nmR (NMc L T) (NMm L T) := by
  refine ⟨(List.range L.toNat).map (fun i => T (i : Nat) - 96), ⟨?_, ?_, ?_⟩, ?_, ?_⟩
  · intro e
    have := congrArg List.length e
    rw [List.length_map, List.length_range] at this
    have := h.1
    simp only [List.length_nil] at *
    omega
  · rw [List.length_map, List.length_range]
    have := h.2.1
    omega
  · intro l hl
    obtain ⟨i, hi, rfl⟩ := List.mem_map.mp hl
    have := okT_at h.2.2 i (by omega) (by have := List.mem_range.mp hi; omega)
    omega
  · unfold NMc; rw [if_pos h, enc_T]
  · unfold NMm; rw [if_pos h, enc_T]
theorem okT_congr {T T' : Int → Int} : ∀ {n : Nat}, (∀ i : Int, 0 ≤ i → i < n → T i = T' i) → okT T n = okT T' n
  | 0, _ => rfl
  | n + 1, h => by
    show (okT T n && decide (97 ≤ T n ∧ T n ≤ 122)) = (okT T' n && decide (97 ≤ T' n ∧ T' n ≤ 122))
    rw [okT_congr (fun i a b => h i a (by omega)), h n (by omega) (by omega)]
theorem encT_congr {b : Int} {T T' : Int → Int} : ∀ {n : Nat}, (∀ i : Int, 0 ≤ i → i < n → T i = T' i) → encT b T n = encT b T' n
  | 0, _ => rfl
  | n + 1, h => by
    show b * encT b T n + (T n - 96) = b * encT b T' n + (T' n - 96)
    rw [encT_congr (fun i a b => h i a (by omega)), h n (by omega) (by omega)]
theorem NMm_congr {L : Int} {T T' : Int → Int} (h0 : 0 ≤ L) (h : ∀ i, 0 ≤ i → i < L → T i = T' i) : NMm L T = NMm L T' := by
  unfold NMm nmOk
  rw [okT_congr (T := T) (T' := T') (fun i a b => h i a (by omega)), encT_congr (T := T) (T' := T') (fun i a b => h i a (by omega))]
/-- five bits more -/
theorem shl5_or {n v : Int} (h0 : 0 ≤ n) (h1 : n < 36028797018963968) (v0 : 0 ≤ v) (v1 : v < 32) : gB64 (fun a b => a ||| b) (gS64 (fun a b => a <<< b) n 5) v = 32 * n + v := by
  unfold gB64
  rw [gS64_back]
  show (Int64.ofInt n <<< ((Int32.ofInt 5).toInt64 &&& 63) ||| Int64.ofInt v).toInt = _
  have e1 : (Int64.ofInt n <<< ((Int32.ofInt 5).toInt64 &&& 63) ||| Int64.ofInt v).toBitVec = (BitVec.ofInt 64 n <<< 5) ||| BitVec.ofInt 64 v := by
    show (BitVec.ofInt 64 n <<< (((Int32.ofInt 5).toInt64 &&& 63).toBitVec.smod 64#64)) ||| BitVec.ofInt 64 v = _
    rw [sh_at (f := 5) (by omega) (by omega)]
    rfl
  have tn : (BitVec.ofInt 64 n).toNat = n.toNat := by
    rw [BitVec.toNat_ofInt]
    have : n % ((2 ^ 64 : Nat) : Int) = n := Int.emod_eq_of_lt h0 (by simp; omega)
    rw [this]
  have tv : (BitVec.ofInt 64 v).toNat = v.toNat := by
    rw [BitVec.toNat_ofInt]
    have : v % ((2 ^ 64 : Nat) : Int) = v := Int.emod_eq_of_lt v0 (by simp; omega)
    rw [this]
  have e2 : ((BitVec.ofInt 64 n <<< 5) ||| BitVec.ofInt 64 v).toNat = 32 * n.toNat + v.toNat := by
    rw [BitVec.toNat_or, BitVec.toNat_shiftLeft, tn, tv, Nat.mod_eq_of_lt (by rw [Nat.shiftLeft_eq]; omega), ← Nat.shiftLeft_add_eq_or_of_lt (by omega), Nat.shiftLeft_eq]
    omega
  rw [← Int64.toInt_toBitVec, e1, BitVec.toInt_eq_toNat_of_lt (by rw [e2]; omega), e2]
  omega
/-- a byte out of a number, by either shift -/
theorem byte_in (a : Int) : 0 ≤ gB32 (fun a b => a &&& b) a 255 ∧ gB32 (fun a b => a &&& b) a 255 ≤ 255 := by
  have h : ∀ z : Int32, 0 ≤ (z &&& 255).toInt ∧ (z &&& 255).toInt ≤ 255 := by
    intro z
    have e : (z &&& 255).toBitVec = z.toBitVec &&& 255#32 := rfl
    have hn : (z.toBitVec &&& 255#32).toNat ≤ 255 := by
      rw [BitVec.toNat_and]
      exact Nat.and_le_right
    have ht : (z &&& 255).toInt = ((z.toBitVec &&& 255#32).toNat : Int) := by
      rw [← Int32.toInt_toBitVec, e, BitVec.toInt_eq_toNat_of_lt (by omega)]
    rw [ht]
    omega
  exact h _
theorem byte_eq (w : Int) (s : Int) (hs : s = 24 ∨ s = 16 ∨ s = 8 ∨ s = 0) : gB32 (fun a b => a &&& b) (gB32 (fun a b => (a.toUInt32 >>> (b.toUInt32 &&& Int32.toUInt32 31)).toInt32) w s) 255 = gB32 (fun a b => a &&& b) (gB32 (fun a b => a >>> (b &&& 31)) w s) 255 := by
  unfold gB32
  simp only [gback32]
  generalize Int32.ofInt w = x
  have key : ∀ k : Nat, k ≤ 24 → (x.toBitVec >>> k) &&& 255#32 = (x.toBitVec.sshiftRight k) &&& 255#32 := by
    intro k hk
    refine BitVec.eq_of_getLsbD_eq fun i hi => ?_
    rw [BitVec.getLsbD_and, BitVec.getLsbD_and, BitVec.getLsbD_ushiftRight, BitVec.getLsbD_sshiftRight]
    by_cases h8 : i < 8
    · rw [if_pos (by omega), decide_eq_false (show ¬ 32 ≤ i by omega)]
      rfl
    · have z : (255#32).getLsbD i = false := by
        rw [show (255#32 : BitVec 32) = BitVec.ofNat 32 (2 ^ 8 - 1) by decide, BitVec.getLsbD_ofNat, Nat.testBit_two_pow_sub_one]
        simp [h8]
      rw [z, Bool.and_false, Bool.and_false]
  have fin : ∀ (k : Nat) (s32 : Int32), k ≤ 24 → ((x.toUInt32 >>> (s32.toUInt32 &&& Int32.toUInt32 31)).toInt32 &&& Int32.ofInt 255).toBitVec = (x.toBitVec >>> k) &&& 255#32 → ((x >>> (s32 &&& 31)) &&& Int32.ofInt 255).toBitVec = (x.toBitVec.sshiftRight k) &&& 255#32 → ((x.toUInt32 >>> (s32.toUInt32 &&& Int32.toUInt32 31)).toInt32 &&& Int32.ofInt 255).toInt = ((x >>> (s32 &&& 31)) &&& Int32.ofInt 255).toInt := by
    intro k s32 hk h1 h2
    rw [← Int32.toInt_toBitVec, ← Int32.toInt_toBitVec, h1, h2, key k hk]
  rcases hs with rfl | rfl | rfl | rfl
  · exact fin 24 _ (by omega) rfl rfl
  · exact fin 16 _ (by omega) rfl rfl
  · exact fin 8 _ (by omega) rfl rfl
  · exact fin 0 _ (by omega) rfl rfl
theorem k_nameOf (σ : gH) (L : Int) (hL : 0 ≤ L ∧ L ≤ 540) : Mt mX8_nameOf 0 [gR 1, gI L] σ (rE (gJ (NMc L (σ 1))) σ) := by
  refine Mt.walk (ls := [gR 1, gI L, gX 1, gX 1, gX 1]) pn_X8 rfl (fun _ _ h => by cases h.1) (Nat.le_of_ble_eq_true rfl) rfl ?_
  refine w_aload_n (pc' := 1) (i := 0) (by rfl) (by rfl) dX8_nameOf_0 rfl ?_
  refine w_ifnull (pc' := 4) dX8_nameOf_1 rfl ?_
  refine w_iload_n (pc' := 5) (i := 1) (by rfl) (by rfl) dX8_nameOf_4 rfl ?_
  refine w_iconst (pc' := 6) (by decide) dX8_nameOf_5 rfl ?_
  refine w_icmp_lt (pc' := 9) (t := 21) dX8_nameOf_6 rfl rfl (fun c_6 => ?_) (fun c_6 => ?_)
  · skip
    refine w_ldc2 (pc' := 24) (by decide) ct_X8_35 dX8_nameOf_21 rfl ?_
    refine w_lreturn rfl dX8_nameOf_24 ?_
    exact ⟨congrArg gJ (NMc_no.mpr (fun k => by omega)).symm, rfl⟩
  · skip
    refine w_iload_n (pc' := 10) (i := 1) (by rfl) (by rfl) dX8_nameOf_9 rfl ?_
    refine w_bipush (pc' := 12) (by decide) (by decide) dX8_nameOf_10 rfl ?_
    refine w_icmp_gt (pc' := 15) (t := 21) dX8_nameOf_12 rfl rfl (fun c_12 => ?_) (fun c_12 => ?_)
    · skip
      refine w_ldc2 (pc' := 24) (by decide) ct_X8_35 dX8_nameOf_21 rfl ?_
      refine w_lreturn rfl dX8_nameOf_24 ?_
      exact ⟨congrArg gJ (NMc_no.mpr (fun k => by omega)).symm, rfl⟩
    · skip
      refine w_iload_n (pc' := 16) (i := 1) (by rfl) (by rfl) dX8_nameOf_15 rfl ?_
      refine w_aload_n (pc' := 17) (i := 0) (by rfl) (by rfl) dX8_nameOf_16 rfl ?_
      refine w_alen (pc' := 18) kd_1 (by decide) (by decide) dX8_nameOf_17 rfl ?_
      refine w_icmp_le (pc' := 21) (t := 25) dX8_nameOf_18 rfl rfl (fun c_18 => ?_) (fun c_18 => ?_)
      · skip
        refine w_lconst (n := 0) (pc' := 26) (by decide) (by decide) dX8_nameOf_25 rfl ?_
        refine w_lstore_n (pc' := 27) (i := 2) (ls' := [gR 1, gI L, gJ 0, gX 1, gX 1]) (by rfl) (by decide) (by rfl) dX8_nameOf_26 rfl ?_
        refine w_iconst (pc' := 28) (by decide) dX8_nameOf_27 rfl ?_
        refine w_istore (pc' := 30) (ls' := [gR 1, gI L, gJ 0, gX 1, gI 0]) (by decide) (by rfl) dX8_nameOf_28 rfl ?_
        have hl_30 : ∀ (mm : Nat) (i v : Int), (L - i).toNat = mm → (0 ≤ i) → (i ≤ L) → (okT (σ 1) i.toNat = true) → (v = encT 32 (σ 1) i.toNat) → Wp mX8_nameOf 0 (rE (gJ (NMc L (σ 1))) σ) σ 30 [gR 1, gI L, gJ v, gX 1, gI i] [] := by
          intro m_30
          induction m_30 using Nat.strongRecOn with
          | _ m_30 ih_30 =>
            intro i v hmeas_30 h0 h1 hok hv
            have hb := encT_in (b := 32) (Or.inr rfl) hok
            have hp : i ≤ 11 → (32 : Int) ^ i.toNat ≤ 36028797018963968 := fun h => pow32 (by omega)
            refine w_iload (pc' := 32) (by rfl) dX8_nameOf_30 rfl ?_
            refine w_iload_n (pc' := 33) (i := 1) (by rfl) (by rfl) dX8_nameOf_32 rfl ?_
            refine w_icmp_ge (pc' := 36) (t := 79) dX8_nameOf_33 rfl rfl (fun c_33 => ?_) (fun c_33 => ?_)
            · skip
              refine w_lload_n (pc' := 80) (i := 2) (by rfl) (by rfl) dX8_nameOf_79 rfl ?_
              refine w_lreturn rfl dX8_nameOf_80 ?_
              have e : i = L := by omega
              subst e
              exact ⟨by unfold NMc; rw [if_pos ⟨by omega, by omega, hok⟩, hv], rfl⟩
            · skip
              refine w_aload_n (pc' := 37) (i := 0) (by rfl) (by rfl) dX8_nameOf_36 rfl ?_
              refine w_iload (pc' := 39) (by rfl) dX8_nameOf_37 rfl ?_
              refine w_iald (pc' := 40) kd_1 (by omega) (by omega) dX8_nameOf_39 rfl ?_
              refine w_bipush (pc' := 42) (by decide) (by decide) dX8_nameOf_40 rfl ?_
              refine w_icmp_lt (pc' := 45) (t := 54) dX8_nameOf_42 rfl rfl (fun c_42 => ?_) (fun c_42 => ?_)
              · skip
                refine w_ldc2 (pc' := 57) (by decide) ct_X8_35 dX8_nameOf_54 rfl ?_
                refine w_lreturn rfl dX8_nameOf_57 ?_
                exact ⟨congrArg gJ (NMc_no.mpr (fun k => absurd k.2.2 (by rw [okT_no (T := σ 1) h0 (by omega) (by omega)]; decide))).symm, rfl⟩
              · skip
                refine w_aload_n (pc' := 46) (i := 0) (by rfl) (by rfl) dX8_nameOf_45 rfl ?_
                refine w_iload (pc' := 48) (by rfl) dX8_nameOf_46 rfl ?_
                refine w_iald (pc' := 49) kd_1 (by omega) (by omega) dX8_nameOf_48 rfl ?_
                refine w_bipush (pc' := 51) (by decide) (by decide) dX8_nameOf_49 rfl ?_
                refine w_icmp_le (pc' := 54) (t := 58) dX8_nameOf_51 rfl rfl (fun c_51 => ?_) (fun c_51 => ?_)
                · skip
                  refine w_lload_n (pc' := 59) (i := 2) (by rfl) (by rfl) dX8_nameOf_58 rfl ?_
                  refine w_iconst (pc' := 60) (by decide) dX8_nameOf_59 rfl ?_
                  refine w_lshl (pc' := 61) dX8_nameOf_60 rfl ?_
                  refine w_aload_n (pc' := 62) (i := 0) (by rfl) (by rfl) dX8_nameOf_61 rfl ?_
                  refine w_iload (pc' := 64) (by rfl) dX8_nameOf_62 rfl ?_
                  refine w_iald (pc' := 65) kd_1 (by omega) (by omega) dX8_nameOf_64 rfl ?_
                  refine w_bipush (pc' := 67) (by decide) (by decide) dX8_nameOf_65 rfl ?_
                  refine v_isub (pc' := 68) (by omega) dX8_nameOf_67 rfl ?_
                  refine w_iconst (pc' := 69) (by decide) dX8_nameOf_68 rfl ?_
                  refine v_iadd (pc' := 70) (by omega) dX8_nameOf_69 rfl ?_
                  refine w_i2l (pc' := 71) dX8_nameOf_70 rfl ?_
                  refine w_lor (pc' := 72) dX8_nameOf_71 rfl ?_
                  refine w_lstore_n (pc' := 73) (i := 2) (ls' := [gR 1, gI L, gJ (gB64 (fun a b => a ||| b) (gS64 (fun a b => a <<< b) v 5) (((σ 1 i) - 97) + 1)), gX 1, gI i]) (by rfl) (by decide) (by rfl) dX8_nameOf_72 rfl ?_
                  refine v_iinc (pc' := 76) (x := i) (ls' := [gR 1, gI L, gJ (gB64 (fun a b => a ||| b) (gS64 (fun a b => a <<< b) v 5) (((σ 1 i) - 97) + 1)), gX 1, gI (i + 1)]) (by omega) (by decide) (by rfl) (by rfl) dX8_nameOf_73 rfl ?_
                  refine w_goto (pc' := 30) dX8_nameOf_76 rfl ?_
                  exact ih_30 _ (by omega) (i + 1) (gB64 (fun a b => a ||| b) (gS64 (fun a b => a <<< b) v 5) (((σ 1 i) - 97) + 1)) rfl (by omega) (by omega) (by rw [okT_s h0, hok, decide_eq_true (by omega)]; rfl) (by rw [shl5_or (by omega) (by have := hp (by omega); omega) (by omega) (by omega), encT_s h0, hv]; omega)
                · skip
                  refine w_ldc2 (pc' := 57) (by decide) ct_X8_35 dX8_nameOf_54 rfl ?_
                  refine w_lreturn rfl dX8_nameOf_57 ?_
                  exact ⟨congrArg gJ (NMc_no.mpr (fun k => absurd k.2.2 (by rw [okT_no (T := σ 1) h0 (by omega) (by omega)]; decide))).symm, rfl⟩
        exact hl_30 _ 0 0 rfl (by omega) (by omega) (by rfl) (by rfl)
      · skip
        refine w_ldc2 (pc' := 24) (by decide) ct_X8_35 dX8_nameOf_21 rfl ?_
        refine w_lreturn rfl dX8_nameOf_24 ?_
        exact ⟨congrArg gJ (NMc_no.mpr (fun k => by omega)).symm, rfl⟩
theorem k_takeName (σ : gH) (hL : 0 ≤ σ 0 1 ∧ σ 0 1 ≤ 540) : Mt mX11_takeName 1 [gR 0] σ (rE (gJ (NMc (σ 0 1) (σ 1))) (gUp σ 0 1 0)) := by
  refine Mt.walk (ls := [gR 0, gX 1]) pn_X11 rfl (fun _ _ h => by cases h.1) (Nat.le_of_ble_eq_true rfl) rfl ?_
  refine w_aload_n (pc' := 1) (i := 0) (by rfl) (by rfl) dX11_takeName_0 rfl ?_
  refine v_getI (pc' := 4) (ji := 1) rfl fg_X11_89 kd_0 dX11_takeName_1 rfl ?_
  refine w_istore_n (pc' := 5) (i := 1) (ls' := [gR 0, gI (σ 0 1)]) (by rfl) (by decide) (by rfl) dX11_takeName_4 rfl ?_
  refine w_aload_n (pc' := 6) (i := 0) (by rfl) (by rfl) dX11_takeName_5 rfl ?_
  refine w_iconst (pc' := 7) (by decide) dX11_takeName_6 rfl ?_
  refine v_putI (pc' := 10) (ji := 1) rfl fp_X11_89 kd_0 sf_X11_1 dX11_takeName_7 rfl ?_
  refine w_aload_n (pc' := 11) (i := 0) (by rfl) (by rfl) dX11_takeName_10 rfl ?_
  refine w_getS (pc' := 14) (q := 1) fg_X11_9 kd_0 sf_X11_0 gr_0_0 dX11_takeName_11 rfl ?_
  refine w_iload_n (pc' := 15) (i := 1) (by rfl) (by rfl) dX11_takeName_14 rfl ?_
  refine v_callSE (pc' := 18) (st' := [gJ (NMc (σ 0 1) (σ 1))]) (d' := 0) (av := [gR 1, gI (σ 0 1)]) ms_mX8_nameOf st_mX8_nameOf lk_X11_107 rfl rfl (Nat.le_of_ble_eq_true rfl) (Nat.le_of_ble_eq_true rfl) dX11_takeName_15 rfl rfl (k_nameOf (gUp σ 0 1 0) (σ 0 1) hL) ?_
  refine w_lreturn rfl dX11_takeName_18 ?_
  exact ⟨rfl, rfl⟩
theorem mo_isLetter (σ : gH) (x : Int) : Mt mX12_isLetter 0 [gI x] σ (rE (gI (gb (97 ≤ x ∧ x ≤ 122))) σ) := by
  refine Mt.walk (ls := [gI x]) pn_X12 rfl (fun _ _ h => by cases h.1) (Nat.le_of_ble_eq_true rfl) rfl ?_
  refine w_iload_n (pc' := 1) (i := 0) (by rfl) (by rfl) dX12_isLetter_0 rfl ?_
  refine w_bipush (pc' := 3) (by decide) (by decide) dX12_isLetter_1 rfl ?_
  refine w_icmp_lt (pc' := 6) (t := 16) dX12_isLetter_3 rfl rfl (fun c_3 => ?_) (fun c_3 => ?_)
  · skip
    refine w_iconst (pc' := 17) (by decide) dX12_isLetter_16 rfl ?_
    refine w_zreturn rfl (.inl rfl) dX12_isLetter_17 ?_
    first | (exfalso; omega) | exact ⟨gbT (by omega), rfl⟩ | exact ⟨gbF (by omega), rfl⟩
  · skip
    refine w_iload_n (pc' := 7) (i := 0) (by rfl) (by rfl) dX12_isLetter_6 rfl ?_
    refine w_bipush (pc' := 9) (by decide) (by decide) dX12_isLetter_7 rfl ?_
    refine w_icmp_gt (pc' := 12) (t := 16) dX12_isLetter_9 rfl rfl (fun c_9 => ?_) (fun c_9 => ?_)
    · skip
      refine w_iconst (pc' := 17) (by decide) dX12_isLetter_16 rfl ?_
      refine w_zreturn rfl (.inl rfl) dX12_isLetter_17 ?_
      first | (exfalso; omega) | exact ⟨gbT (by omega), rfl⟩ | exact ⟨gbF (by omega), rfl⟩
    · skip
      refine w_iconst (pc' := 13) (by decide) dX12_isLetter_12 rfl ?_
      refine w_goto (pc' := 17) dX12_isLetter_13 rfl ?_
      refine w_zreturn rfl (.inr rfl) dX12_isLetter_17 ?_
      first | (exfalso; omega) | exact ⟨gbT (by omega), rfl⟩ | exact ⟨gbF (by omega), rfl⟩
theorem q_takeName (σ : gH) (hL : 0 ≤ σ 133 2 ∧ σ 133 2 ≤ 540) (hby : ∀ i, 0 ≤ i → i < σ 133 2 → 0 ≤ σ 134 i ∧ σ 134 i ≤ 255) : Mt mX12_takeName 1 [gR 133] σ (rE (gJ (NMm (σ 133 2) (σ 134))) (gUp σ 133 2 0)) := by
  refine Mt.walk (ls := [gR 133, gX 1, gX 1, gX 1, gX 1]) pn_X12 rfl (fun _ _ h => by cases h.1) (Nat.le_of_ble_eq_true rfl) rfl ?_
  refine w_aload_n (pc' := 1) (i := 0) (by rfl) (by rfl) dX12_takeName_0 rfl ?_
  refine v_getI (pc' := 4) (ji := 2) rfl fg_X12_247 kd_133 dX12_takeName_1 rfl ?_
  refine w_istore_n (pc' := 5) (i := 1) (ls' := [gR 133, gI (σ 133 2), gX 1, gX 1, gX 1]) (by rfl) (by decide) (by rfl) dX12_takeName_4 rfl ?_
  refine w_aload_n (pc' := 6) (i := 0) (by rfl) (by rfl) dX12_takeName_5 rfl ?_
  refine w_iconst (pc' := 7) (by decide) dX12_takeName_6 rfl ?_
  refine v_putI (pc' := 10) (ji := 2) rfl fp_X12_247 kd_133 sf_X12_2 dX12_takeName_7 rfl ?_
  refine w_iload_n (pc' := 11) (i := 1) (by rfl) (by rfl) dX12_takeName_10 rfl ?_
  refine w_iconst (pc' := 12) (by decide) dX12_takeName_11 rfl ?_
  refine w_bipush (pc' := 14) (by decide) (by decide) dX12_takeName_12 rfl ?_
  refine v_callSE (pc' := 17) (st' := [gI (gb (1 ≤ (σ 133 2) ∧ (σ 133 2) ≤ 12))]) (d' := 0) (av := [gI (σ 133 2), gI 1, gI 12]) ms_mX12_isIn st_mX12_isIn lk_X12_254 rfl rfl (Nat.le_of_ble_eq_true rfl) (Nat.le_of_ble_eq_true rfl) dX12_takeName_14 rfl rfl (mo_isIn (gUp σ 133 2 0) (σ 133 2) 1 12) ?_
  refine v_if_neB (pc' := 20) (t := 22) dX12_takeName_17 rfl rfl (fun c_17 => ?_) (fun c_17 => ?_)
  · skip
    refine w_lconst (n := 0) (pc' := 23) (by decide) (by decide) dX12_takeName_22 rfl ?_
    refine w_lstore_n (pc' := 24) (i := 2) (ls' := [gR 133, gI (σ 133 2), gJ 0, gX 1, gX 1]) (by rfl) (by decide) (by rfl) dX12_takeName_23 rfl ?_
    refine w_iconst (pc' := 25) (by decide) dX12_takeName_24 rfl ?_
    refine w_istore (pc' := 27) (ls' := [gR 133, gI (σ 133 2), gJ 0, gX 1, gI 0]) (by decide) (by rfl) dX12_takeName_25 rfl ?_
    have hl_27 : ∀ (mm : Nat) (i v : Int), (σ 133 2 - i).toNat = mm → (0 ≤ i) → (i ≤ σ 133 2) → (okT (σ 134) i.toNat = true) → (v = encT 27 (σ 134) i.toNat) → Wp mX12_takeName 1 (rE (gJ (NMm (σ 133 2) (σ 134))) (gUp σ 133 2 0)) (gUp σ 133 2 0) 27 [gR 133, gI (σ 133 2), gJ v, gX 1, gI i] [] := by
      intro m_27
      induction m_27 using Nat.strongRecOn with
      | _ m_27 ih_27 =>
        intro i v hmeas_27 h0 h1 hok hv
        have hb := encT_in (b := 27) (Or.inl rfl) hok
        have hp : i ≤ 11 → (32 : Int) ^ i.toNat ≤ 36028797018963968 := fun h => pow32 (by omega)
        have hB : i < σ 133 2 → 0 ≤ σ 134 i ∧ σ 134 i ≤ 255 := hby i h0
        refine w_iload (pc' := 29) (by rfl) dX12_takeName_27 rfl ?_
        refine w_iload_n (pc' := 30) (i := 1) (by rfl) (by rfl) dX12_takeName_29 rfl ?_
        refine w_icmp_ge (pc' := 33) (t := 73) dX12_takeName_30 rfl rfl (fun c_30 => ?_) (fun c_30 => ?_)
        · skip
          refine w_lload_n (pc' := 74) (i := 2) (by rfl) (by rfl) dX12_takeName_73 rfl ?_
          refine w_lreturn rfl dX12_takeName_74 ?_
          have e : i = σ 133 2 := by omega
          subst e
          exact ⟨by unfold NMm; rw [if_pos ⟨by omega, by omega, hok⟩, hv], rfl⟩
        · skip
          refine w_aload_n (pc' := 34) (i := 0) (by rfl) (by rfl) dX12_takeName_33 rfl ?_
          refine w_getS (pc' := 37) (q := 134) fg_X12_7 kd_133 sf_X12_1 gr_133_1 dX12_takeName_34 rfl ?_
          refine w_iload (pc' := 39) (by rfl) dX12_takeName_37 rfl ?_
          refine w_iald (pc' := 40) kd_134 (by omega) (by omega) dX12_takeName_39 rfl ?_
          show Wp _ _ _ _ _ _ [gI (σ 134 i)]
          refine v_callSE (pc' := 43) (st' := [gI (gb (97 ≤ (σ 134 i) ∧ (σ 134 i) ≤ 122))]) (d' := 0) (av := [gI (σ 134 i)]) ms_mX12_isLetter st_mX12_isLetter lk_X12_261 rfl rfl (Nat.le_of_ble_eq_true rfl) (Nat.le_of_ble_eq_true rfl) dX12_takeName_40 rfl rfl (mo_isLetter (gUp σ 133 2 0) (σ 134 i)) ?_
          refine v_if_neB (pc' := 46) (t := 48) dX12_takeName_43 rfl rfl (fun c_43 => ?_) (fun c_43 => ?_)
          · skip
            refine w_ldc2 (pc' := 51) (by decide) ct_X12_265 dX12_takeName_48 rfl ?_
            refine w_lload_n (pc' := 52) (i := 2) (by rfl) (by rfl) dX12_takeName_51 rfl ?_
            refine v_lmul (pc' := 53) (by have := hp (by omega); have := hB (by omega); omega) dX12_takeName_52 rfl ?_
            refine w_aload_n (pc' := 54) (i := 0) (by rfl) (by rfl) dX12_takeName_53 rfl ?_
            refine w_getS (pc' := 57) (q := 134) fg_X12_7 kd_133 sf_X12_1 gr_133_1 dX12_takeName_54 rfl ?_
            refine w_iload (pc' := 59) (by rfl) dX12_takeName_57 rfl ?_
            refine w_iald (pc' := 60) kd_134 (by omega) (by omega) dX12_takeName_59 rfl ?_
            show Wp _ _ _ _ _ _ [gI (σ 134 i), gJ (27 * v)]
            refine w_i2l (pc' := 61) dX12_takeName_60 rfl ?_
            refine v_ladd (pc' := 62) (by have := hp (by omega); have := hB (by omega); omega) dX12_takeName_61 rfl ?_
            refine w_ldc2 (pc' := 65) (by decide) ct_X12_267 dX12_takeName_62 rfl ?_
            refine v_lsub (pc' := 66) (by have := hp (by omega); have := hB (by omega); omega) dX12_takeName_65 rfl ?_
            refine w_lstore_n (pc' := 67) (i := 2) (ls' := [gR 133, gI (σ 133 2), gJ (((27 * v) + (σ 134 i)) - 96), gX 1, gI i]) (by rfl) (by decide) (by rfl) dX12_takeName_66 rfl ?_
            refine v_iinc (pc' := 70) (x := i) (ls' := [gR 133, gI (σ 133 2), gJ (((27 * v) + (σ 134 i)) - 96), gX 1, gI (i + 1)]) (by omega) (by decide) (by rfl) (by rfl) dX12_takeName_67 rfl ?_
            refine w_goto (pc' := 27) dX12_takeName_70 rfl ?_
            exact ih_27 _ (by omega) (i + 1) (((27 * v) + (σ 134 i)) - 96) rfl (by omega) (by omega) (by rw [okT_s h0, hok, decide_eq_true c_43]; rfl) (by rw [encT_s h0, hv]; omega)
          · skip
            refine w_lconst (n := 0) (pc' := 47) (by decide) (by decide) dX12_takeName_46 rfl ?_
            refine w_lreturn rfl dX12_takeName_47 ?_
            exact ⟨congrArg gJ (NMm_no.mpr (fun k => absurd k.2.2 (by rw [okT_no (T := σ 134) h0 c_43 (by omega)]; decide))).symm, rfl⟩
    exact hl_27 _ 0 0 rfl (by omega) (by omega) (by rfl) (by rfl)
  · skip
    refine w_lconst (n := 0) (pc' := 21) (by decide) (by decide) dX12_takeName_20 rfl ?_
    refine w_lreturn rfl dX12_takeName_21 ?_
    exact ⟨congrArg gJ (NMm_no.mpr (fun k => by omega)).symm, rfl⟩
