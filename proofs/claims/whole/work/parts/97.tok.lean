/-! the tokens of a law: the class (gen/mod_tok.py) -/
section TK
variable {M : gM} {d : Nat} {Q : gV → gH → Prop} {σ : gH} {pc pc' : Nat} {ls st : List gV}
theorem w_ldcS (hcls : M.1.cls = "GiftRegister$Tokens") (hd : decode M.2.1 pc = .ok (.ldc 69, 2)) (hpc : pc + 2 = pc') (k : Wp M d Q σ pc' ls (gX 3 :: st)) : Wp M d Q σ pc ls st := fun hg => wg_ldcS hcls hd hpc (k hg)
theorem w_slen {idx : Nat} (hl : Cond.methodLink M.1.cls idx mJ0_length_8abf5.1 ∈ gG) (hcat : gCat st ≤ 8) (hdd : 1 + 1 ≤ d) (hd : decode M.2.1 pc = .ok (.invokevirtual idx, 3)) (hpc : pc + 3 = pc') (k : Wp M d Q σ pc' ls (gI 135 :: st)) : Wp M d Q σ pc ls (gX 3 :: st) := fun hg =>
  wg_callX3 (mc := 0) (ms := 0) (mc' := 0) (ms' := 0) (d' := 1) (av := []) mi_mJ0_length_8abf5 rfl hl rfl rfl hcat hdd hd hpc (k_length _ _) fun v L' σ' h => by
    obtain ⟨rfl, rfl, rfl⟩ := h
    exact k hg
theorem w_schar {idx : Nat} {i : Int} (h0 : 0 ≤ i) (h1 : i < 135) (hl : Cond.methodLink M.1.cls idx mJ0_charAt_5068e.1 ∈ gG) (hcat : gCat st ≤ 8) (hdd : 3 + 1 ≤ d) (hd : decode M.2.1 pc = .ok (.invokevirtual idx, 3)) (hpc : pc + 3 = pc') (k : Wp M d Q σ pc' ls (gI (gCh i) :: st)) : Wp M d Q σ pc ls (gI i :: gX 3 :: st) := fun hg =>
  wg_callX3 (mc := 0) (ms := 0) (mc' := 0) (ms' := 0) (d' := 3) (av := [gI i]) mi_mJ0_charAt_5068e rfl hl rfl rfl hcat hdd hd hpc (k_charAt _ _ h0 h1) fun v L' σ' h => by
    obtain ⟨rfl, rfl, rfl⟩ := h
    exact k hg
end TK
abbrev blk (x : Int) : Prop := x = 32 ∨ x = 10
abbrev sgn (x : Int) : Prop := x = 59 ∨ x = 40 ∨ x = 41 ∨ x = 60 ∨ x = 61 ∨ x = 62
abbrev ltr (x : Int) : Prop := 97 ≤ x ∧ x ≤ 122
abbrev dgt (x : Int) : Prop := 48 ≤ x ∧ x ≤ 57
abbrev pln (x : Int) : Prop := ltr x ∨ dgt x
/-- the words: how many end ahead of i, where the one at i begins -/
def wcn : Nat → Int
  | 0 => 0
  | i + 1 => if gCh i = 32 then wcn i + 1 else wcn i
def wbn : Nat → Int
  | 0 => 0
  | i + 1 => if gCh i = 32 then (i : Int) + 1 else wbn i
theorem wbn_in : ∀ i, 0 ≤ wbn i ∧ wbn i ≤ i
  | 0 => by simp [wbn]
  | i + 1 => by
    have k := wbn_in i
    unfold wbn
    split <;> omega
theorem wcn_in : ∀ i, 0 ≤ wcn i ∧ wcn i ≤ i
  | 0 => by simp [wcn]
  | i + 1 => by
    have k := wcn_in i
    unfold wcn
    split <;> omega
theorem wcn_s {i : Int} (h : 0 ≤ i) : (gCh i = 32 → wcn (i + 1).toNat = wcn i.toNat + 1) ∧ (gCh i ≠ 32 → wcn (i + 1).toNat = wcn i.toNat) := by
  have e : (i + 1).toNat = i.toNat + 1 := by omega
  rw [e]
  refine ⟨fun k => if_pos (by rw [Int.toNat_of_nonneg h]; exact k), fun k => if_neg (by rw [Int.toNat_of_nonneg h]; exact k)⟩
theorem wbn_s {i : Int} (h : 0 ≤ i) : (gCh i = 32 → wbn (i + 1).toNat = i + 1) ∧ (gCh i ≠ 32 → wbn (i + 1).toNat = wbn i.toNat) := by
  have e : (i + 1).toNat = i.toNat + 1 := by omega
  rw [e]
  refine ⟨fun k => (if_pos (by rw [Int.toNat_of_nonneg h]; exact k)).trans (by omega), fun k => if_neg (by rw [Int.toNat_of_nonneg h]; exact k)⟩
/-- the letters B 0 .. B (n - 1) spell the word that ends ahead of i -/
def WAT (B : Int → Int) (n i : Int) : Prop := gCh i = 32 ∧ i - wbn i.toNat = n ∧ ∀ k, 0 ≤ k → k < n → B k = gCh (wbn i.toNat + k)
def KWD (B : Int → Int) (n v : Int) : Prop := (v = -1 ∧ ∀ i, 0 ≤ i → i < 135 → ¬ WAT B n i) ∨ ∃ i, 0 ≤ i ∧ i < 135 ∧ WAT B n i ∧ v = wcn i.toNat
def DEC (B : Int → Int) : Nat → Int
  | 0 => 0
  | k + 1 => DEC B k * 10 + B k - 48
def p10 (d : Int) : Int := if d ≤ 0 then 1 else if d = 1 then 10 else if d = 2 then 100 else if d = 3 then 1000 else if d = 4 then 10000 else if d = 5 then 100000 else if d = 6 then 1000000 else 10000000
theorem p10_in (d : Int) : 1 ≤ p10 d ∧ p10 d ≤ 10000000 := by
  unfold p10
  repeat' split
  all_goals omega
theorem p10_s {d : Int} (h : 0 ≤ d) (h1 : d < 7) : p10 (d + 1) = 10 * p10 d := by
  unfold p10
  repeat' split
  all_goals omega
theorem p10_m {d : Int} (h : 0 ≤ d) : p10 d ≤ p10 (d + 1) := by
  unfold p10
  repeat' split
  all_goals omega
/-- a run of letters and digits from p on -/
def RUN (T : Int → Int) (L p q k v : Int) : Prop := (p ≤ q ∧ q ≤ L ∧ (∀ i, p ≤ i → i < q → pln (T i)) ∧ (q < L → ¬ pln (T q))) ∧
  (((∀ i, p ≤ i → i < q → ltr (T i)) ∧ k = 2 ∧ KWD (fun j => T (p + j)) (q - p) v) ∨
  ((∀ i, p ≤ i → i < q → dgt (T i)) ∧ p < q ∧ q - p ≤ 7 ∧ k = 3 ∧ v = DEC (fun j => T (p + j)) (q - p).toNat) ∨
  ((∃ i, p ≤ i ∧ i < q ∧ dgt (T i)) ∧ ((∃ i, p ≤ i ∧ i < q ∧ ltr (T i)) ∨ 7 < q - p) ∧ k = 1 ∧ v = -1))
/-- the token behind p, of the L bytes T, those from E on unread: it is at a, what is behind it at q, its kind k, its value v -/
def TOKN (T : Int → Int) (L E p a q k v : Int) : Prop :=
  ((∀ i, p ≤ i → i < E → blk (T i)) ∧ a = E ∧ q = E ∧ k = 0 ∧ v = -1) ∨
  ((∀ i, p ≤ i → i < a → blk (T i)) ∧ p ≤ a ∧ a < E ∧ ¬ blk (T a) ∧ ((pln (T a) ∧ RUN T L a q k v) ∨ (¬ pln (T a) ∧ q = a + 1 ∧ v = -1 ∧ ((sgn (T a) ∧ k = T a) ∨ (¬ sgn (T a) ∧ k = 1)))))
theorem kt_isBlank {σ : gH} (x : Int) : Mt mX10_isBlank 0 [gI x] σ (rE (gI (gb (blk x))) σ) := by
  refine Mt.walk (ls := [gI x]) pn_X10 rfl (fun _ _ h => by cases h.1) (Nat.le_of_ble_eq_true rfl) rfl ?_
  refine w_iload_n (pc' := 1) (i := 0) (by rfl) (by rfl) dX10_isBlank_0 rfl ?_
  refine w_bipush (pc' := 3) (by decide) (by decide) dX10_isBlank_1 rfl ?_
  refine w_icmp_eq (pc' := 6) (t := 12) dX10_isBlank_3 rfl rfl (fun c_3 => ?_) (fun c_3 => ?_)
  · skip
    refine w_iconst (pc' := 13) (by decide) dX10_isBlank_12 rfl ?_
    refine w_goto (pc' := 17) dX10_isBlank_13 rfl ?_
    refine w_zreturn rfl (.inr rfl) dX10_isBlank_17 ?_
    first | (exfalso; omega) | exact ⟨congrArg gI (gb_t (by omega)).symm, rfl⟩ | exact ⟨congrArg gI (gb_f (by omega)).symm, rfl⟩
  · skip
    refine w_iload_n (pc' := 7) (i := 0) (by rfl) (by rfl) dX10_isBlank_6 rfl ?_
    refine w_bipush (pc' := 9) (by decide) (by decide) dX10_isBlank_7 rfl ?_
    refine w_icmp_ne (pc' := 12) (t := 16) dX10_isBlank_9 rfl rfl (fun c_9 => ?_) (fun c_9 => ?_)
    · skip
      refine w_iconst (pc' := 17) (by decide) dX10_isBlank_16 rfl ?_
      refine w_zreturn rfl (.inl rfl) dX10_isBlank_17 ?_
      first | (exfalso; omega) | exact ⟨congrArg gI (gb_t (by omega)).symm, rfl⟩ | exact ⟨congrArg gI (gb_f (by omega)).symm, rfl⟩
    · skip
      refine w_iconst (pc' := 13) (by decide) dX10_isBlank_12 rfl ?_
      refine w_goto (pc' := 17) dX10_isBlank_13 rfl ?_
      refine w_zreturn rfl (.inr rfl) dX10_isBlank_17 ?_
      first | (exfalso; omega) | exact ⟨congrArg gI (gb_t (by omega)).symm, rfl⟩ | exact ⟨congrArg gI (gb_f (by omega)).symm, rfl⟩
theorem kt_isSign {σ : gH} (x : Int) : Mt mX10_isSign 0 [gI x] σ (rE (gI (gb (sgn x))) σ) := by
  refine Mt.walk (ls := [gI x]) pn_X10 rfl (fun _ _ h => by cases h.1) (Nat.le_of_ble_eq_true rfl) rfl ?_
  refine w_iload_n (pc' := 1) (i := 0) (by rfl) (by rfl) dX10_isSign_0 rfl ?_
  refine w_bipush (pc' := 3) (by decide) (by decide) dX10_isSign_1 rfl ?_
  refine w_icmp_eq (pc' := 6) (t := 36) dX10_isSign_3 rfl rfl (fun c_3 => ?_) (fun c_3 => ?_)
  · skip
    refine w_iconst (pc' := 37) (by decide) dX10_isSign_36 rfl ?_
    refine w_goto (pc' := 41) dX10_isSign_37 rfl ?_
    refine w_zreturn rfl (.inr rfl) dX10_isSign_41 ?_
    first | (exfalso; omega) | exact ⟨congrArg gI (gb_t (by omega)).symm, rfl⟩ | exact ⟨congrArg gI (gb_f (by omega)).symm, rfl⟩
  · skip
    refine w_iload_n (pc' := 7) (i := 0) (by rfl) (by rfl) dX10_isSign_6 rfl ?_
    refine w_bipush (pc' := 9) (by decide) (by decide) dX10_isSign_7 rfl ?_
    refine w_icmp_eq (pc' := 12) (t := 36) dX10_isSign_9 rfl rfl (fun c_9 => ?_) (fun c_9 => ?_)
    · skip
      refine w_iconst (pc' := 37) (by decide) dX10_isSign_36 rfl ?_
      refine w_goto (pc' := 41) dX10_isSign_37 rfl ?_
      refine w_zreturn rfl (.inr rfl) dX10_isSign_41 ?_
      first | (exfalso; omega) | exact ⟨congrArg gI (gb_t (by omega)).symm, rfl⟩ | exact ⟨congrArg gI (gb_f (by omega)).symm, rfl⟩
    · skip
      refine w_iload_n (pc' := 13) (i := 0) (by rfl) (by rfl) dX10_isSign_12 rfl ?_
      refine w_bipush (pc' := 15) (by decide) (by decide) dX10_isSign_13 rfl ?_
      refine w_icmp_eq (pc' := 18) (t := 36) dX10_isSign_15 rfl rfl (fun c_15 => ?_) (fun c_15 => ?_)
      · skip
        refine w_iconst (pc' := 37) (by decide) dX10_isSign_36 rfl ?_
        refine w_goto (pc' := 41) dX10_isSign_37 rfl ?_
        refine w_zreturn rfl (.inr rfl) dX10_isSign_41 ?_
        first | (exfalso; omega) | exact ⟨congrArg gI (gb_t (by omega)).symm, rfl⟩ | exact ⟨congrArg gI (gb_f (by omega)).symm, rfl⟩
      · skip
        refine w_iload_n (pc' := 19) (i := 0) (by rfl) (by rfl) dX10_isSign_18 rfl ?_
        refine w_bipush (pc' := 21) (by decide) (by decide) dX10_isSign_19 rfl ?_
        refine w_icmp_eq (pc' := 24) (t := 36) dX10_isSign_21 rfl rfl (fun c_21 => ?_) (fun c_21 => ?_)
        · skip
          refine w_iconst (pc' := 37) (by decide) dX10_isSign_36 rfl ?_
          refine w_goto (pc' := 41) dX10_isSign_37 rfl ?_
          refine w_zreturn rfl (.inr rfl) dX10_isSign_41 ?_
          first | (exfalso; omega) | exact ⟨congrArg gI (gb_t (by omega)).symm, rfl⟩ | exact ⟨congrArg gI (gb_f (by omega)).symm, rfl⟩
        · skip
          refine w_iload_n (pc' := 25) (i := 0) (by rfl) (by rfl) dX10_isSign_24 rfl ?_
          refine w_bipush (pc' := 27) (by decide) (by decide) dX10_isSign_25 rfl ?_
          refine w_icmp_eq (pc' := 30) (t := 36) dX10_isSign_27 rfl rfl (fun c_27 => ?_) (fun c_27 => ?_)
          · skip
            refine w_iconst (pc' := 37) (by decide) dX10_isSign_36 rfl ?_
            refine w_goto (pc' := 41) dX10_isSign_37 rfl ?_
            refine w_zreturn rfl (.inr rfl) dX10_isSign_41 ?_
            first | (exfalso; omega) | exact ⟨congrArg gI (gb_t (by omega)).symm, rfl⟩ | exact ⟨congrArg gI (gb_f (by omega)).symm, rfl⟩
          · skip
            refine w_iload_n (pc' := 31) (i := 0) (by rfl) (by rfl) dX10_isSign_30 rfl ?_
            refine w_bipush (pc' := 33) (by decide) (by decide) dX10_isSign_31 rfl ?_
            refine w_icmp_ne (pc' := 36) (t := 40) dX10_isSign_33 rfl rfl (fun c_33 => ?_) (fun c_33 => ?_)
            · skip
              refine w_iconst (pc' := 41) (by decide) dX10_isSign_40 rfl ?_
              refine w_zreturn rfl (.inl rfl) dX10_isSign_41 ?_
              first | (exfalso; omega) | exact ⟨congrArg gI (gb_t (by omega)).symm, rfl⟩ | exact ⟨congrArg gI (gb_f (by omega)).symm, rfl⟩
            · skip
              refine w_iconst (pc' := 37) (by decide) dX10_isSign_36 rfl ?_
              refine w_goto (pc' := 41) dX10_isSign_37 rfl ?_
              refine w_zreturn rfl (.inr rfl) dX10_isSign_41 ?_
              first | (exfalso; omega) | exact ⟨congrArg gI (gb_t (by omega)).symm, rfl⟩ | exact ⟨congrArg gI (gb_f (by omega)).symm, rfl⟩
theorem kt_isLetter {σ : gH} (x : Int) : Mt mX10_isLetter 0 [gI x] σ (rE (gI (gb (ltr x))) σ) := by
  refine Mt.walk (ls := [gI x]) pn_X10 rfl (fun _ _ h => by cases h.1) (Nat.le_of_ble_eq_true rfl) rfl ?_
  refine w_iload_n (pc' := 1) (i := 0) (by rfl) (by rfl) dX10_isLetter_0 rfl ?_
  refine w_bipush (pc' := 3) (by decide) (by decide) dX10_isLetter_1 rfl ?_
  refine w_icmp_lt (pc' := 6) (t := 16) dX10_isLetter_3 rfl rfl (fun c_3 => ?_) (fun c_3 => ?_)
  · skip
    refine w_iconst (pc' := 17) (by decide) dX10_isLetter_16 rfl ?_
    refine w_zreturn rfl (.inl rfl) dX10_isLetter_17 ?_
    first | (exfalso; omega) | exact ⟨congrArg gI (gb_t (by omega)).symm, rfl⟩ | exact ⟨congrArg gI (gb_f (by omega)).symm, rfl⟩
  · skip
    refine w_iload_n (pc' := 7) (i := 0) (by rfl) (by rfl) dX10_isLetter_6 rfl ?_
    refine w_bipush (pc' := 9) (by decide) (by decide) dX10_isLetter_7 rfl ?_
    refine w_icmp_gt (pc' := 12) (t := 16) dX10_isLetter_9 rfl rfl (fun c_9 => ?_) (fun c_9 => ?_)
    · skip
      refine w_iconst (pc' := 17) (by decide) dX10_isLetter_16 rfl ?_
      refine w_zreturn rfl (.inl rfl) dX10_isLetter_17 ?_
      first | (exfalso; omega) | exact ⟨congrArg gI (gb_t (by omega)).symm, rfl⟩ | exact ⟨congrArg gI (gb_f (by omega)).symm, rfl⟩
    · skip
      refine w_iconst (pc' := 13) (by decide) dX10_isLetter_12 rfl ?_
      refine w_goto (pc' := 17) dX10_isLetter_13 rfl ?_
      refine w_zreturn rfl (.inr rfl) dX10_isLetter_17 ?_
      first | (exfalso; omega) | exact ⟨congrArg gI (gb_t (by omega)).symm, rfl⟩ | exact ⟨congrArg gI (gb_f (by omega)).symm, rfl⟩
theorem kt_isDigit {σ : gH} (x : Int) : Mt mX10_isDigit 0 [gI x] σ (rE (gI (gb (dgt x))) σ) := by
  refine Mt.walk (ls := [gI x]) pn_X10 rfl (fun _ _ h => by cases h.1) (Nat.le_of_ble_eq_true rfl) rfl ?_
  refine w_iload_n (pc' := 1) (i := 0) (by rfl) (by rfl) dX10_isDigit_0 rfl ?_
  refine w_bipush (pc' := 3) (by decide) (by decide) dX10_isDigit_1 rfl ?_
  refine w_icmp_lt (pc' := 6) (t := 16) dX10_isDigit_3 rfl rfl (fun c_3 => ?_) (fun c_3 => ?_)
  · skip
    refine w_iconst (pc' := 17) (by decide) dX10_isDigit_16 rfl ?_
    refine w_zreturn rfl (.inl rfl) dX10_isDigit_17 ?_
    first | (exfalso; omega) | exact ⟨congrArg gI (gb_t (by omega)).symm, rfl⟩ | exact ⟨congrArg gI (gb_f (by omega)).symm, rfl⟩
  · skip
    refine w_iload_n (pc' := 7) (i := 0) (by rfl) (by rfl) dX10_isDigit_6 rfl ?_
    refine w_bipush (pc' := 9) (by decide) (by decide) dX10_isDigit_7 rfl ?_
    refine w_icmp_gt (pc' := 12) (t := 16) dX10_isDigit_9 rfl rfl (fun c_9 => ?_) (fun c_9 => ?_)
    · skip
      refine w_iconst (pc' := 17) (by decide) dX10_isDigit_16 rfl ?_
      refine w_zreturn rfl (.inl rfl) dX10_isDigit_17 ?_
      first | (exfalso; omega) | exact ⟨congrArg gI (gb_t (by omega)).symm, rfl⟩ | exact ⟨congrArg gI (gb_f (by omega)).symm, rfl⟩
    · skip
      refine w_iconst (pc' := 13) (by decide) dX10_isDigit_12 rfl ?_
      refine w_goto (pc' := 17) dX10_isDigit_13 rfl ?_
      refine w_zreturn rfl (.inr rfl) dX10_isDigit_17 ?_
      first | (exfalso; omega) | exact ⟨congrArg gI (gb_t (by omega)).symm, rfl⟩ | exact ⟨congrArg gI (gb_f (by omega)).symm, rfl⟩
theorem kt_isPlain {σ : gH} (x : Int) : Mt mX10_isPlain 1 [gI x] σ (rE (gI (gb (pln x))) σ) := by
  refine Mt.walk (ls := [gI x]) pn_X10 rfl (fun _ _ h => by cases h.1) (Nat.le_of_ble_eq_true rfl) rfl ?_
  refine w_iload_n (pc' := 1) (i := 0) (by rfl) (by rfl) dX10_isPlain_0 rfl ?_
  refine v_callSE (pc' := 4) (st' := [gI (gb (ltr x))]) (d' := 0) (av := [gI x]) ms_mX10_isLetter st_mX10_isLetter lk_X10_60 rfl rfl (Nat.le_of_ble_eq_true rfl) (Nat.le_of_ble_eq_true rfl) dX10_isPlain_1 rfl rfl (kt_isLetter (σ := σ) x) ?_
  refine v_if_neB (pc' := 7) (t := 14) dX10_isPlain_4 rfl rfl (fun c_4 => ?_) (fun c_4 => ?_)
  · skip
    refine w_iconst (pc' := 15) (by decide) dX10_isPlain_14 rfl ?_
    refine w_goto (pc' := 19) dX10_isPlain_15 rfl ?_
    refine w_zreturn rfl (.inr rfl) dX10_isPlain_19 ?_
    first | (exfalso; omega) | exact ⟨congrArg gI (gb_t (by omega)).symm, rfl⟩ | exact ⟨congrArg gI (gb_f (by omega)).symm, rfl⟩
  · skip
    refine w_iload_n (pc' := 8) (i := 0) (by rfl) (by rfl) dX10_isPlain_7 rfl ?_
    refine v_callSE (pc' := 11) (st' := [gI (gb (dgt x))]) (d' := 0) (av := [gI x]) ms_mX10_isDigit st_mX10_isDigit lk_X10_63 rfl rfl (Nat.le_of_ble_eq_true rfl) (Nat.le_of_ble_eq_true rfl) dX10_isPlain_8 rfl rfl (kt_isDigit (σ := σ) x) ?_
    refine v_if_eqB (pc' := 14) (t := 18) dX10_isPlain_11 rfl rfl (fun c_11 => ?_) (fun c_11 => ?_)
    · skip
      refine w_iconst (pc' := 19) (by decide) dX10_isPlain_18 rfl ?_
      refine w_zreturn rfl (.inl rfl) dX10_isPlain_19 ?_
      first | (exfalso; omega) | exact ⟨congrArg gI (gb_t (by omega)).symm, rfl⟩ | exact ⟨congrArg gI (gb_f (by omega)).symm, rfl⟩
    · skip
      refine w_iconst (pc' := 15) (by decide) dX10_isPlain_14 rfl ?_
      refine w_goto (pc' := 19) dX10_isPlain_15 rfl ?_
      refine w_zreturn rfl (.inr rfl) dX10_isPlain_19 ?_
      first | (exfalso; omega) | exact ⟨congrArg gI (gb_t (by omega)).symm, rfl⟩ | exact ⟨congrArg gI (gb_f (by omega)).symm, rfl⟩
theorem kt_byteAt {σ : gH} (ht : σ 66 0 = 1) (hL : σ 66 1 ≤ 540) (i : Int) (hi : 0 ≤ i ∧ i < σ 66 1) : Mt mX10_byteAt 0 [gR 66, gI i] σ (rE (gI (σ 1 i)) σ) := by
  refine Mt.walk (ls := [gR 66, gI i]) pn_X10 rfl (fun _ _ h => by cases h.1) (Nat.le_of_ble_eq_true rfl) rfl ?_
  refine w_aload_n (pc' := 1) (i := 0) (by rfl) (by rfl) dX10_byteAt_0 rfl ?_
  refine v_getM (pc' := 4) (q := 1) (ji := 0) rfl fg_X10_9 kd_66 ht dX10_byteAt_1 rfl ?_
  refine w_ifnull (pc' := 7) dX10_byteAt_4 rfl ?_
  refine w_iload_n (pc' := 8) (i := 1) (by rfl) (by rfl) dX10_byteAt_7 rfl ?_
  refine w_if_lt (pc' := 11) (t := 37) dX10_byteAt_8 rfl rfl (fun c_8 => ?_) (fun c_8 => ?_)
  · skip
    refine w_iconst (pc' := 38) (by decide) dX10_byteAt_37 rfl ?_
    refine v_ireturn rfl dX10_byteAt_38 ?_
    first | (exfalso; omega) | exact ⟨rfl, rfl⟩
  · skip
    refine w_iload_n (pc' := 12) (i := 1) (by rfl) (by rfl) dX10_byteAt_11 rfl ?_
    refine w_aload_n (pc' := 13) (i := 0) (by rfl) (by rfl) dX10_byteAt_12 rfl ?_
    refine v_getI (pc' := 16) (ji := 1) rfl fg_X10_24 kd_66 dX10_byteAt_13 rfl ?_
    refine w_icmp_ge (pc' := 19) (t := 37) dX10_byteAt_16 rfl rfl (fun c_16 => ?_) (fun c_16 => ?_)
    · skip
      refine w_iconst (pc' := 38) (by decide) dX10_byteAt_37 rfl ?_
      refine v_ireturn rfl dX10_byteAt_38 ?_
      first | (exfalso; omega) | exact ⟨rfl, rfl⟩
    · skip
      refine w_iload_n (pc' := 20) (i := 1) (by rfl) (by rfl) dX10_byteAt_19 rfl ?_
      refine w_aload_n (pc' := 21) (i := 0) (by rfl) (by rfl) dX10_byteAt_20 rfl ?_
      refine v_getM (pc' := 24) (q := 1) (ji := 0) rfl fg_X10_9 kd_66 ht dX10_byteAt_21 rfl ?_
      refine w_alen (pc' := 25) kd_1 (by decide) (by decide) dX10_byteAt_24 rfl ?_
      refine w_icmp_ge (pc' := 28) (t := 37) dX10_byteAt_25 rfl rfl (fun c_25 => ?_) (fun c_25 => ?_)
      · skip
        refine w_iconst (pc' := 38) (by decide) dX10_byteAt_37 rfl ?_
        refine v_ireturn rfl dX10_byteAt_38 ?_
        first | (exfalso; omega) | exact ⟨rfl, rfl⟩
      · skip
        refine w_aload_n (pc' := 29) (i := 0) (by rfl) (by rfl) dX10_byteAt_28 rfl ?_
        refine v_getM (pc' := 32) (q := 1) (ji := 0) rfl fg_X10_9 kd_66 ht dX10_byteAt_29 rfl ?_
        refine w_iload_n (pc' := 33) (i := 1) (by rfl) (by rfl) dX10_byteAt_32 rfl ?_
        refine w_iald (pc' := 34) kd_1 (by omega) (by omega) dX10_byteAt_33 rfl ?_
        refine w_goto (pc' := 38) dX10_byteAt_34 rfl ?_
        refine v_ireturn rfl dX10_byteAt_38 ?_
        first | (exfalso; omega) | exact ⟨rfl, rfl⟩
theorem kt_isSpelt {σ : gH} (ht : σ 66 0 = 1) (hL : σ 66 1 ≤ 540) (f b n : Int) (hf : 0 ≤ f ∧ f + n ≤ σ 66 1) (hb : 0 ≤ b ∧ b + n ≤ 134) (hn : 0 ≤ n) : Mt mX10_isSpelt 4 [gR 66, gI f, gI b, gI n] σ (rE (gI (inI (∀ k, 0 ≤ k → k < n → σ 1 (f + k) = gCh (b + k)))) σ) := by
  refine Mt.walk (ls := [gR 66, gI f, gI b, gI n, gX 1]) pn_X10 rfl (fun _ _ h => by cases h.1) (Nat.le_of_ble_eq_true rfl) rfl ?_
  refine w_iconst (pc' := 1) (by decide) dX10_isSpelt_0 rfl ?_
  refine w_istore (pc' := 3) (ls' := [gR 66, gI f, gI b, gI n, gI 0]) (by decide) (by rfl) dX10_isSpelt_1 rfl ?_
  have hl_3 : ∀ (mm : Nat) (j : Int), (n - j).toNat = mm → (0 ≤ j) → (j ≤ n) → (∀ k, 0 ≤ k → k < j → σ 1 (f + k) = gCh (b + k)) → Wp mX10_isSpelt 4 (rE (gI (inI (∀ k, 0 ≤ k → k < n → σ 1 (f + k) = gCh (b + k)))) σ) σ 3 [gR 66, gI f, gI b, gI n, gI j] [] := by
    intro m_3
    induction m_3 using Nat.strongRecOn with
    | _ m_3 ih_3 =>
      intro j hmeas_3 j0 j1 hj
      refine w_iload (pc' := 5) (by rfl) dX10_isSpelt_3 rfl ?_
      refine w_iload_n (pc' := 6) (i := 3) (by rfl) (by rfl) dX10_isSpelt_5 rfl ?_
      refine w_icmp_ge (pc' := 9) (t := 49) dX10_isSpelt_6 rfl rfl (fun c_6 => ?_) (fun c_6 => ?_)
      · skip
        refine w_iconst (pc' := 50) (by decide) dX10_isSpelt_49 rfl ?_
        refine w_zreturn rfl (.inr rfl) dX10_isSpelt_50 ?_
        first | (exfalso; omega) | exact ⟨congrArg gI (inI_t fun k a b => hj k a (by omega)).symm, rfl⟩
      · skip
        refine w_iload_n (pc' := 10) (i := 2) (by rfl) (by rfl) dX10_isSpelt_9 rfl ?_
        refine w_iload (pc' := 12) (by rfl) dX10_isSpelt_10 rfl ?_
        refine v_iadd (pc' := 13) (by omega) dX10_isSpelt_12 rfl ?_
        refine w_ldcS (pc' := 15) rfl dX10_isSpelt_13 rfl ?_
        refine w_slen (pc' := 18) lk_X10_71 (Nat.le_of_ble_eq_true rfl) (Nat.le_of_ble_eq_true rfl) dX10_isSpelt_15 rfl ?_
        refine w_icmp_ge (pc' := 21) (t := 49) dX10_isSpelt_18 rfl rfl (fun c_18 => ?_) (fun c_18 => ?_)
        · skip
          refine w_iconst (pc' := 50) (by decide) dX10_isSpelt_49 rfl ?_
          refine w_zreturn rfl (.inr rfl) dX10_isSpelt_50 ?_
          first | (exfalso; omega) | exact ⟨congrArg gI (inI_t fun k a b => hj k a (by omega)).symm, rfl⟩
        · skip
          refine w_aload_n (pc' := 22) (i := 0) (by rfl) (by rfl) dX10_isSpelt_21 rfl ?_
          refine w_iload_n (pc' := 23) (i := 1) (by rfl) (by rfl) dX10_isSpelt_22 rfl ?_
          refine w_iload (pc' := 25) (by rfl) dX10_isSpelt_23 rfl ?_
          refine v_iadd (pc' := 26) (by omega) dX10_isSpelt_25 rfl ?_
          refine v_callVE (pc' := 29) (st' := [gI (σ 1 (f + j))]) (d' := 0) (av := [gI (f + j)]) mi_mX10_byteAt lk_X10_43 rfl ci_X10 kd_66 rfl (Nat.le_of_ble_eq_true rfl) (Nat.le_of_ble_eq_true rfl) dX10_isSpelt_26 rfl rfl (kt_byteAt (σ := σ) ht hL (f + j) (show 0 ≤ f + j ∧ f + j < σ 66 1 by omega)) ?_
          refine w_ldcS (pc' := 31) rfl dX10_isSpelt_29 rfl ?_
          refine w_iload_n (pc' := 32) (i := 2) (by rfl) (by rfl) dX10_isSpelt_31 rfl ?_
          refine w_iload (pc' := 34) (by rfl) dX10_isSpelt_32 rfl ?_
          refine v_iadd (pc' := 35) (by omega) dX10_isSpelt_34 rfl ?_
          refine w_schar (pc' := 38) (by omega) (by omega) lk_X10_76 (Nat.le_of_ble_eq_true rfl) (Nat.le_of_ble_eq_true rfl) dX10_isSpelt_35 rfl ?_
          refine w_icmp_eq (pc' := 41) (t := 43) dX10_isSpelt_38 rfl rfl (fun c_38 => ?_) (fun c_38 => ?_)
          · skip
            refine v_iinc (pc' := 46) (x := j) (ls' := [gR 66, gI f, gI b, gI n, gI (j + 1)]) (by omega) (by decide) (by rfl) (by rfl) dX10_isSpelt_43 rfl ?_
            refine w_goto (pc' := 3) dX10_isSpelt_46 rfl ?_
            exact ih_3 _ (by omega) (j + 1) rfl (by omega) (by omega) (by intro k a b; by_cases e : k = j; (rw [e]; exact c_38); exact hj k a (by omega))
          · skip
            refine w_iconst (pc' := 42) (by decide) dX10_isSpelt_41 rfl ?_
            refine w_zreturn rfl (.inl rfl) dX10_isSpelt_42 ?_
            exact ⟨congrArg gI (inI_f fun w => c_38 (w j j0 (by omega))).symm, rfl⟩
  exact hl_3 _ 0 rfl (by omega) (by omega) (by intro k a b; omega)
theorem kt_wordFrom {σ : gH} (ht : σ 66 0 = 1) (hL : σ 66 1 ≤ 540) (f n : Int) (hf : 0 ≤ f ∧ f + n ≤ σ 66 1) (hn : 1 ≤ n) : Mt mX10_wordFrom 5 [gR 66, gI f, gI n] σ (fun v σ' => (∃ w, v = gI w ∧ KWD (fun j => σ 1 (f + j)) n w) ∧ σ' = σ) := by
  refine Mt.walk (ls := [gR 66, gI f, gI n, gX 1, gX 1, gX 1]) pn_X10 rfl (fun _ _ h => by obtain ⟨⟨_, h, _⟩, _⟩ := h; cases h) (Nat.le_of_ble_eq_true rfl) rfl ?_
  refine w_iconst (pc' := 1) (by decide) dX10_wordFrom_0 rfl ?_
  refine w_istore_n (pc' := 2) (i := 3) (ls' := [gR 66, gI f, gI n, gI 0, gX 1, gX 1]) (by rfl) (by decide) (by rfl) dX10_wordFrom_1 rfl ?_
  refine w_iconst (pc' := 3) (by decide) dX10_wordFrom_2 rfl ?_
  refine w_istore (pc' := 5) (ls' := [gR 66, gI f, gI n, gI 0, gI 0, gX 1]) (by decide) (by rfl) dX10_wordFrom_3 rfl ?_
  refine w_iconst (pc' := 6) (by decide) dX10_wordFrom_5 rfl ?_
  refine w_istore (pc' := 8) (ls' := [gR 66, gI f, gI n, gI 0, gI 0, gI 0]) (by decide) (by rfl) dX10_wordFrom_6 rfl ?_
  have hl_8 : ∀ (mm : Nat) (w b i : Int), (135 - i).toNat = mm → (0 ≤ i) → (i ≤ 135) → (w = wcn i.toNat) → (b = wbn i.toNat) → (∀ z, 0 ≤ z → z < i → ¬ WAT (fun j => σ 1 (f + j)) n z) → Wp mX10_wordFrom 5 (fun v σ' => (∃ w, v = gI w ∧ KWD (fun j => σ 1 (f + j)) n w) ∧ σ' = σ) σ 8 [gR 66, gI f, gI n, gI w, gI b, gI i] [] := by
    intro m_8
    induction m_8 using Nat.strongRecOn with
    | _ m_8 ih_8 =>
      intro w b i hmeas_8 i0 i1 hwv hbv hw
      have hwb := wbn_in i.toNat
      have hwc := wcn_in i.toNat
      have hcs := wcn_s i0
      have hbs := wbn_s i0
      refine w_iload (pc' := 10) (by rfl) dX10_wordFrom_8 rfl ?_
      refine w_ldcS (pc' := 12) rfl dX10_wordFrom_10 rfl ?_
      refine w_slen (pc' := 15) lk_X10_71 (Nat.le_of_ble_eq_true rfl) (Nat.le_of_ble_eq_true rfl) dX10_wordFrom_12 rfl ?_
      refine w_icmp_ge (pc' := 18) (t := 67) dX10_wordFrom_15 rfl rfl (fun c_15 => ?_) (fun c_15 => ?_)
      · skip
        refine w_iconst (pc' := 68) (by decide) dX10_wordFrom_67 rfl ?_
        refine v_ireturn rfl dX10_wordFrom_68 ?_
        exact ⟨⟨_, rfl, Or.inl ⟨rfl, fun z a b => hw z a (by omega)⟩⟩, rfl⟩
      · skip
        refine w_ldcS (pc' := 20) rfl dX10_wordFrom_18 rfl ?_
        refine w_iload (pc' := 22) (by rfl) dX10_wordFrom_20 rfl ?_
        refine w_schar (pc' := 25) (by omega) (by omega) lk_X10_76 (Nat.le_of_ble_eq_true rfl) (Nat.le_of_ble_eq_true rfl) dX10_wordFrom_22 rfl ?_
        refine w_bipush (pc' := 27) (by decide) (by decide) dX10_wordFrom_25 rfl ?_
        refine w_icmp_ne (pc' := 30) (t := 61) dX10_wordFrom_27 rfl rfl (fun c_27 => ?_) (fun c_27 => ?_)
        · skip
          refine v_iinc (pc' := 64) (x := i) (ls' := [gR 66, gI f, gI n, gI w, gI b, gI (i + 1)]) (by omega) (by decide) (by rfl) (by rfl) dX10_wordFrom_61 rfl ?_
          refine w_goto (pc' := 8) dX10_wordFrom_64 rfl ?_
          exact ih_8 _ (by omega) w b (i + 1) rfl (by omega) (by omega) (by first | (have q := hcs.1 c_27; omega) | (have q := hcs.2 c_27; omega)) (by first | (have q := hbs.1 c_27; omega) | (have q := hbs.2 c_27; omega)) (by intro z a b9; by_cases e : z = i; (rw [e]; intro u; first | exact c_27 u.1 | (have u2 := u.2.1; exact c_36 (by omega)) | (have u3 := u.2.2; rw [← hbv] at u3; exact inI_0.mp c_47 u3)); exact hw z a (by omega))
        · skip
          refine w_iload (pc' := 32) (by rfl) dX10_wordFrom_30 rfl ?_
          refine w_iload (pc' := 34) (by rfl) dX10_wordFrom_32 rfl ?_
          refine v_isub (pc' := 35) (by omega) dX10_wordFrom_34 rfl ?_
          refine w_iload_n (pc' := 36) (i := 2) (by rfl) (by rfl) dX10_wordFrom_35 rfl ?_
          refine w_icmp_ne (pc' := 39) (t := 52) dX10_wordFrom_36 rfl rfl (fun c_36 => ?_) (fun c_36 => ?_)
          · skip
            refine v_iinc (pc' := 55) (x := w) (ls' := [gR 66, gI f, gI n, gI (w + 1), gI b, gI i]) (by omega) (by decide) (by rfl) (by rfl) dX10_wordFrom_52 rfl ?_
            refine w_iload (pc' := 57) (by rfl) dX10_wordFrom_55 rfl ?_
            refine w_iconst (pc' := 58) (by decide) dX10_wordFrom_57 rfl ?_
            refine v_iadd (pc' := 59) (by omega) dX10_wordFrom_58 rfl ?_
            refine w_istore (pc' := 61) (ls' := [gR 66, gI f, gI n, gI (w + 1), gI (i + 1), gI i]) (by decide) (by rfl) dX10_wordFrom_59 rfl ?_
            refine v_iinc (pc' := 64) (x := i) (ls' := [gR 66, gI f, gI n, gI (w + 1), gI (i + 1), gI (i + 1)]) (by omega) (by decide) (by rfl) (by rfl) dX10_wordFrom_61 rfl ?_
            refine w_goto (pc' := 8) dX10_wordFrom_64 rfl ?_
            exact ih_8 _ (by omega) (w + 1) (i + 1) (i + 1) rfl (by omega) (by omega) (by first | (have q := hcs.1 c_27; omega) | (have q := hcs.2 c_27; omega)) (by first | (have q := hbs.1 c_27; omega) | (have q := hbs.2 c_27; omega)) (by intro z a b9; by_cases e : z = i; (rw [e]; intro u; first | exact c_27 u.1 | (have u2 := u.2.1; exact c_36 (by omega)) | (have u3 := u.2.2; rw [← hbv] at u3; exact inI_0.mp c_47 u3)); exact hw z a (by omega))
          · skip
            refine w_aload_n (pc' := 40) (i := 0) (by rfl) (by rfl) dX10_wordFrom_39 rfl ?_
            refine w_iload_n (pc' := 41) (i := 1) (by rfl) (by rfl) dX10_wordFrom_40 rfl ?_
            refine w_iload (pc' := 43) (by rfl) dX10_wordFrom_41 rfl ?_
            refine w_iload_n (pc' := 44) (i := 2) (by rfl) (by rfl) dX10_wordFrom_43 rfl ?_
            refine v_callVE (pc' := 47) (st' := [gI (inI (∀ k, 0 ≤ k → k < n → σ 1 (f + k) = gCh (b + k)))]) (d' := 4) (av := [gI f, gI b, gI n]) mi_mX10_isSpelt lk_X10_80 rfl ci_X10 kd_66 rfl (Nat.le_of_ble_eq_true rfl) (Nat.le_of_ble_eq_true rfl) dX10_wordFrom_44 rfl rfl (kt_isSpelt (σ := σ) ht hL f b n (by omega) (by omega) (by omega)) ?_
            refine w_if_eq (pc' := 50) (t := 52) dX10_wordFrom_47 rfl rfl (fun c_47 => ?_) (fun c_47 => ?_)
            · skip
              refine v_iinc (pc' := 55) (x := w) (ls' := [gR 66, gI f, gI n, gI (w + 1), gI b, gI i]) (by omega) (by decide) (by rfl) (by rfl) dX10_wordFrom_52 rfl ?_
              refine w_iload (pc' := 57) (by rfl) dX10_wordFrom_55 rfl ?_
              refine w_iconst (pc' := 58) (by decide) dX10_wordFrom_57 rfl ?_
              refine v_iadd (pc' := 59) (by omega) dX10_wordFrom_58 rfl ?_
              refine w_istore (pc' := 61) (ls' := [gR 66, gI f, gI n, gI (w + 1), gI (i + 1), gI i]) (by decide) (by rfl) dX10_wordFrom_59 rfl ?_
              refine v_iinc (pc' := 64) (x := i) (ls' := [gR 66, gI f, gI n, gI (w + 1), gI (i + 1), gI (i + 1)]) (by omega) (by decide) (by rfl) (by rfl) dX10_wordFrom_61 rfl ?_
              refine w_goto (pc' := 8) dX10_wordFrom_64 rfl ?_
              exact ih_8 _ (by omega) (w + 1) (i + 1) (i + 1) rfl (by omega) (by omega) (by first | (have q := hcs.1 c_27; omega) | (have q := hcs.2 c_27; omega)) (by first | (have q := hbs.1 c_27; omega) | (have q := hbs.2 c_27; omega)) (by intro z a b9; by_cases e : z = i; (rw [e]; intro u; first | exact c_27 u.1 | (have u2 := u.2.1; exact c_36 (by omega)) | (have u3 := u.2.2; rw [← hbv] at u3; exact inI_0.mp c_47 u3)); exact hw z a (by omega))
            · skip
              refine w_iload_n (pc' := 51) (i := 3) (by rfl) (by rfl) dX10_wordFrom_50 rfl ?_
              refine v_ireturn rfl dX10_wordFrom_51 ?_
              exact ⟨⟨_, rfl, Or.inr ⟨i, i0, by omega, ⟨c_27, by omega, by rw [← hbv]; exact inI_1 c_47⟩, hwv⟩⟩, rfl⟩
  exact hl_8 _ 0 0 0 rfl (by omega) (by omega) (by rfl) (by rfl) (by intro z a b; omega)
